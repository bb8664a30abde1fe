import java.util.function.Supplier;

/** What the document's 'Terms' say of operations, fields, taking back and outcomes, at the bounds that they name. */
public final class TermsTest {
    private static final Check C = new Check("TermsTest");

    public static void main(String[] args) {
        users();
        anyOrder();
        fieldsOfSteps();
        stepsThatChangeNothing();
        refusedCallsAreNoSteps();
        mostOperations();
        mostWrites();
        firstClock();
        greatestClock();
        ownOperations();
        laterOfTwo();
        firstValues();
        lateWriters();
        stemsFromNone();
        stemsFromTheStepAhead();
        nextNumbers();
        takenBackInTurn();
        takenBackNothing();
        takenBackIsNoStep();
        takenBackToWhatWasThere();
        takenBackInPart();
        refusedTakingBack();
        outcomeOfOthers();
        C.end();
    }

    private static Plugboard row(int shapes) {
        Plugboard x = new Plugboard();
        for (int i = 0; i < shapes; i++) {
            x.addShape(0, 2 * i, 8, 1, 1, false);
        }
        return x;
    }

    private static void syncAll(Plugboard x) {
        x.sync(0, 1);
        x.sync(1, 2);
        x.sync(0, 1);
    }

    // Terms: The users are 0, 1 and 2.
    private static void users() {
        for (int u = -1; u <= 3; u++) {
            int user = u;
            boolean isUser = user >= 0 && user <= 2;
            C.due("user " + user, isUser ? (Object) 0 : Check.ARGUMENT, () -> new Plugboard().shapes(user));
            C.due("user " + user, isUser ? (Object) false : Check.ARGUMENT, () -> new Plugboard().show(user, true));
        }
    }

    // Terms: Each user has an own board; what the users do reaches the others as operations, in any order.
    // Terms: All boards that know the same operations are alike, and no connector ends in nothing.
    // Terms: Boards are found as they are kept, and anew from all operations.
    private static void anyOrder() {
        int[][] orders = {{0, 1, 2, 3, 4, 5}, {5, 4, 3, 2, 1, 0}, {3, 0, 5, 1, 4, 2}, {2, 5, 0, 4, 1, 3}};
        for (int[] order : orders) {
            Plugboard x = new Plugboard();
            x.addShape(0, 1, 1, 2, 2, false);
            x.addShape(0, 8, 8, 2, 2, true);
            x.connect(0, 0, 'r', 1, 'l');
            x.move(0, 1, 9, 9);
            x.remove(0, 0);
            x.takeBack(0);
            for (int i = 0; i < 6; i++) {
                int operation = order[i];
                C.due("delivered", i + 1, () -> x.deliver(1, operation));
                C.due("a connector has both shapes", true,
                        () -> x.connectors(1) == 0 || x.sees(1, 0) && x.sees(1, 1));
                C.due("as it is kept and anew", x.outcome(1), () -> x.outcomeAnew(1));
            }
            C.due("alike", true, () -> x.areAlike(0, 1));
            C.due("alike", true, () -> x.areAlike(1, 0));
            C.due("the same outcome", x.outcome(0), () -> x.outcome(1));
            C.due("the connector has both ends", x.routeLength(0, 0), () -> x.routeLength(1, 0));
            C.due("user 2 has an own board", 0, () -> x.shapes(2));
            x.remove(1, 1);
            C.due("no connector ends in nothing", 0, () -> x.connectors(1));
            C.due("it does on the own board alone", 1, () -> x.connectors(0));
        }
    }

    // Terms: A board has fields, each with a value.
    // Terms: An operation writes values into some fields.
    private static void fieldsOfSteps() {
        fields("addShape", 3, x -> x.addShape(0, 0, 0, 1, 1, false));
        fields("move", 1, x -> x.move(0, Boards.FREE, 0, 0));
        fields("move a frame", 2, x -> x.move(0, Boards.FRAME, 0, 0));
        fields("raise", 1, x -> x.raise(0, Boards.FREE));
        fields("lower", 1, x -> x.lower(0, Boards.FREE));
        fields("putAbove", 1, x -> x.putAbove(0, Boards.FREE, Boards.OTHER));
        fields("remove", 1, x -> x.remove(0, Boards.FREE));
        fields("lock", 1, x -> x.lock(0, Boards.FREE));
        fields("unlock", 1, x -> x.unlock(0, Boards.LOCKED));
        fields("connect", 1, x -> x.connect(0, Boards.FREE, 't', Boards.OTHER, 'b'));
        fields("disconnect", 1, x -> x.disconnect(0, Boards.LINE));
        fields("vote", 1, x -> x.vote(0, Boards.FREE, 2));
        fields("show", 1, x -> x.show(0, true));
    }

    private static void fields(String what, int due, Refusal.Call step) {
        Plugboard x = Boards.mixed();
        Plugboard twin = Boards.mixed();
        step.on(x);
        C.due(what + ": fields", due, () -> x.takeBack(0));
        twin.show(0, false);
        twin.takeBack(0);
        C.same(what + ": all is as it was", Boards.answers(twin), Boards.answers(x));
    }

    private static void idle(String what, Object due, int fields, Supplier<Plugboard> start, Refusal.Call call) {
        Plugboard x = start.get();
        int before = x.operations();
        int outcome = x.outcome(0);
        C.due(what, due, () -> call.on(x));
        C.due(what + ": one operation", before + 1, () -> x.operations());
        C.due(what + ": all values stay", outcome, () -> x.outcome(0));
        C.due(what + ": it is the last step", fields, () -> x.takeBack(0));
        C.due(what + ": and is taken back", outcome, () -> x.outcome(0));
    }

    // Terms: is a step of its user and makes one operation, also if all values stay as they are
    private static void stepsThatChangeNothing() {
        idle("move", 1, 1, Boards::mixed, x -> x.move(0, Boards.FREE, 4, 4));
        idle("move a frame", 2, 2, Boards::mixed, x -> x.move(0, Boards.FRAME, 2, 2));
        idle("vote", 3, 1, Boards::mixed, x -> x.vote(0, Boards.FREE, 3));
        idle("vote none", 0, 1, Boards::mixed, x -> x.vote(0, Boards.LOCKED, 0));
        idle("hide", false, 1, Boards::mixed, x -> x.show(0, false));
        idle("show", true, 1, Boards::mixedAndShown, x -> x.show(0, true));
        idle("lock", 1, 1, () -> {
            Plugboard x = Boards.mixed();
            x.lock(0, Boards.FREE);
            return x;
        }, x -> x.lock(0, Boards.FREE));
    }

    // Terms: Each call of addShape, move, raise, lower, putAbove, remove, lock, unlock, connect, disconnect, vote or
    // show that throws no exception is a step
    private static void refusedCallsAreNoSteps() {
        Plugboard x = Boards.mixed();
        x.vote(0, Boards.OTHER, 2);
        Check.answerOf(() -> x.move(0, Boards.LOCKED, 0, 0));
        Check.answerOf(() -> x.vote(0, Boards.FRAME, 1));
        Check.answerOf(() -> x.remove(0, Boards.UNKNOWN));
        Check.answerOf(() -> x.addShape(0, 24, 0, 1, 1, false));
        C.due("no operation", 17, () -> x.operations());
        C.due("the vote is the last step", 1, () -> x.takeBack(0));
        C.due("back to one vote", 1, () -> x.ownVotes(0, Boards.OTHER));
    }

    // Terms: at most 250 operations have numbers from 0
    private static void mostOperations() {
        Plugboard x = new Plugboard();
        for (int i = 0; i < 250; i++) {
            int number = i;
            C.due("operation " + i, i > 2, () -> x.show(number % 3, true));
        }
        C.due("one more", Check.STATE, () -> x.show(0, true));
        C.due("250", 250, () -> x.operations());
        C.due("the first", 0, () -> x.userOf(0));
        C.due("the last", 0, () -> x.userOf(249));
        C.due("there is no more", Check.ELEMENT, () -> x.userOf(250));
        C.due("they are all delivered", 84 + 83, () -> x.sync(0, 1));
        C.due("they are all delivered", 83 + 84 + 83, () -> x.sync(1, 2));
        C.due("all are known", Check.STATE, () -> x.deliver(2, 0));
        C.due("all are known", Check.STATE, () -> x.deliver(2, 249));
    }

    // The most that 250 operations can write: frames that carry all shapes, by turns.
    private static void mostWrites() {
        Plugboard x = new Plugboard();
        for (int i = 0; i < 12; i++) {
            x.addShape(0, 0, 0, 8, 8, true);
        }
        for (int i = 0; i < 237; i++) {
            int shape = i % 12;
            int column = i % 17;
            int row = i % 9;
            C.due("move " + i, 12, () -> x.move(0, shape, column, row));
        }
        C.due("the last operation", 12, () -> x.takeBack(0));
        C.due("250", 250, () -> x.operations());
        for (int s = 0; s < 12; s++) {
            int shape = s;
            C.due("column", 235 % 17, () -> x.columnOf(0, shape));
            C.due("row", 235 % 9, () -> x.rowOf(0, shape));
        }
        C.due("all are delivered", 250, () -> x.sync(0, 1));
        C.due("alike", true, () -> x.areAlike(0, 1));
        C.due("found anew", x.outcome(0), () -> x.outcomeAnew(1));
    }

    // Terms: or 1 if the user knows none
    private static void firstClock() {
        Plugboard x = new Plugboard();
        for (int u = 0; u < 3; u++) {
            int user = u;
            x.show(user, true);
            C.due("the first clock of user " + user, 1, () -> x.clockOf(user));
        }
        Plugboard y = new Plugboard();
        y.show(2, true);
        y.takeBack(2);
        C.due("a taking back has a clock too", 2, () -> y.clockOf(1));
        y.show(2, true);
        C.due("and counts among what is known", 3, () -> y.clockOf(2));
    }

    // Terms: the clock is 1 more than the greatest one of the operations that the user knows
    private static void greatestClock() {
        Plugboard x = new Plugboard();
        for (int i = 0; i < 5; i++) {
            x.show(0, true);
        }
        x.show(1, true);
        x.deliver(1, 3);
        x.deliver(1, 0);
        x.show(1, true);
        C.due("1 more than 4, whatever came behind it", 5, () -> x.clockOf(6));
        x.show(1, true);
        C.due("1 more than the own one", 6, () -> x.clockOf(7));
        x.deliver(1, 4);
        x.show(1, true);
        C.due("a smaller one that is delivered changes nothing", 7, () -> x.clockOf(8));
        x.sync(0, 1);
        x.show(0, true);
        C.due("by sync too", 8, () -> x.clockOf(9));
        x.show(2, true);
        C.due("not those that are not known", 1, () -> x.clockOf(10));
        x.sync(2, 0);
        x.takeBack(2);
        C.due("of a taking back too", 9, () -> x.clockOf(11));
    }

    // Terms: A user knows all own operations, and others as soon as they are delivered.
    private static void ownOperations() {
        Plugboard x = new Plugboard();
        x.show(0, true);
        x.takeBack(0);
        for (int o = 0; o < 2; o++) {
            int operation = o;
            C.due("an own one", true, () -> x.knows(0, operation));
            C.due("another user's", false, () -> x.knows(1, operation));
            C.due("another user's", false, () -> x.knows(2, operation));
        }
        C.due("delivered", 1, () -> x.deliver(1, 1));
        C.due("as soon as that", true, () -> x.knows(1, 1));
        C.due("not the other one", false, () -> x.knows(1, 0));
        C.due("not the other user", false, () -> x.knows(2, 1));
        x.sync(1, 2);
        C.due("what a user knows, not only what is its own", true, () -> x.knows(2, 1));
    }

    // Terms: Of two operations, the one with the greater clock is the later one, of equal ones that of the user with
    // the greater number.
    private static void laterOfTwo() {
        for (int one = 0; one < 3; one++) {
            for (int two = 0; two < 3; two++) {
                if (one != two) {
                    firstOperations(one, two);
                    equalClocks(one, two);
                    greaterClock(one, two);
                }
            }
        }
    }

    private static void firstOperations(int one, int two) {
        Plugboard x = new Plugboard();
        x.show(one, true);
        x.show(two, false);
        x.sync(one, two);
        Object due = one > two ? Check.ELEMENT : Check.UNSUPPORTED;
        C.due("shown by " + one + ", hidden by " + two, due, () -> x.winner(one));
        C.due("on both boards", due, () -> x.winner(two));
        C.due("alike", true, () -> x.areAlike(one, two));
        int third = 3 - one - two;
        x.deliver(third, 1);
        x.deliver(third, 0);
        C.due("in the other order", due, () -> x.winner(third));
    }

    private static void equalClocks(int one, int two) {
        Plugboard x = row(1);
        syncAll(x);
        x.move(one, 0, 1, 1);
        x.move(two, 0, 2, 2);
        x.sync(one, two);
        int due = one > two ? 1 : 2;
        C.due("equal clocks of " + one + " and " + two, due, () -> x.columnOf(one, 0));
        C.due("on both boards", due, () -> x.columnOf(two, 0));
        C.due("found anew", x.outcome(one), () -> x.outcomeAnew(two));
        C.due("alike", true, () -> x.areAlike(one, two));
    }

    private static void greaterClock(int one, int two) {
        Plugboard x = row(1);
        syncAll(x);
        x.move(one, 0, 1, 1);
        x.move(one, 0, 1, 2);
        x.move(two, 0, 2, 2);
        x.sync(two, one);
        C.due("a greater clock of " + one + " than of " + two, 1, () -> x.columnOf(one, 0));
        C.due("on both boards", 1, () -> x.columnOf(two, 0));
        C.due("found anew", x.outcome(two), () -> x.outcomeAnew(one));
        C.due("alike", true, () -> x.areAlike(two, one));
    }

    // Terms: if there is none, it has its first value
    // Terms: for each shape, whether it is there (first not), its place (first the column 0 and the row 0), its key
    // (first 0.0f), and who has locked it (first nobody); for each connector, whether it is there (first not); for each
    // user and shape, how many votes this user gives it (first 0); and whether votes are shown (first not).
    private static void firstValues() {
        // A removal is taken back, and this alone is delivered: nothing else of the shape is known.
        Plugboard x = new Plugboard();
        x.addShape(0, 5, 6, 2, 3, true);
        x.vote(0, 0, 2);
        x.lock(0, 0);
        x.remove(0, 0);
        x.takeBack(0);
        C.due("first not there", false, () -> x.sees(1, 0));
        x.deliver(1, 4);
        C.due("there", true, () -> x.sees(1, 0));
        C.due("first the column 0", 0, () -> x.columnOf(1, 0));
        C.due("first the row 0", 0, () -> x.rowOf(1, 0));
        C.due("first 0.0f", 0.0f, () -> x.keyOf(1, 0));
        C.due("first 0.0f, as bits", 0, () -> x.keyBits(1, 0));
        C.due("first nobody", -1, () -> x.lockedBy(1, 0));
        C.due("first 0 votes", 0, () -> x.ownVotes(1, 0));
        C.due("first not shown", false, () -> x.show(1, true));
        C.due("first 0 votes of all", 0, () -> x.votesFor(1, 0));
        C.due("its size is no field", 6L, () -> x.area(1));
        C.due("nor whether it is a frame", 1.0f, () -> x.frameShare(1));
        Plugboard y = row(2);
        y.connect(0, 0, 'r', 1, 'l');
        y.deliver(1, 0);
        y.deliver(1, 1);
        C.due("a connector is first not there", 0, () -> y.connectors(1));
        C.due("a connector is first not there", Check.ELEMENT, () -> y.bends(1, 0));
    }

    // Terms: a field has the value that the latest of the operations that the user knows and that write into it has
    // written there
    private static void lateWriters() {
        int[][] orders = {{1, 2, 3}, {1, 3, 2}, {2, 1, 3}, {2, 3, 1}, {3, 1, 2}, {3, 2, 1}};
        for (int[] order : orders) {
            Plugboard x = row(1);
            x.move(0, 0, 3, 3);
            x.move(0, 0, 4, 4);
            x.takeBack(0);
            x.deliver(1, 0);
            int latest = 0;
            int[] columns = {0, 3, 4, 3};
            for (int operation : order) {
                x.deliver(1, operation);
                latest = Math.max(latest, operation);
                C.due("the latest of what is known", columns[latest], () -> x.columnOf(1, 0));
                C.due("found anew", x.outcome(1), () -> x.outcomeAnew(1));
            }
        }
    }

    // Terms: stems from that from which the same value stemmed ahead of this step, which can be none
    private static void stemsFromNone() {
        Plugboard x = new Plugboard();
        x.show(0, true);
        x.show(1, false);
        x.takeBack(1);
        x.deliver(0, 1);
        x.deliver(0, 2);
        C.due("hidden by user 1's taking back", false, () -> x.show(2, true) || x.show(0, false));
        x.takeBack(0);
        C.due("it does not stem from user 0's first step", 0, () -> x.takeBack(0));
        C.due("still hidden", Check.UNSUPPORTED, () -> x.winner(0));

        Plugboard y = row(1);
        syncAll(y);
        y.lock(0, 0);
        y.takeBack(0);
        y.sync(0, 1);
        C.due("nobody", -1, () -> y.lockedBy(1, 0));
        C.due("that nobody has locked it stems from none, place and key from the step", 3, () -> y.takeBack(0));
    }

    private static void stemsFromTheStepAhead() {
        Plugboard x = row(1);
        x.move(0, 0, 1, 1);
        x.move(0, 0, 2, 2);
        x.move(0, 0, 3, 3);
        int[] columns = {2, 1, 0};
        for (int column : columns) {
            C.due("it stems from the step ahead", 1, () -> x.takeBack(0));
            C.due("column", column, () -> x.columnOf(0, 0));
        }
        Plugboard y = row(1);
        syncAll(y);
        y.move(1, 0, 5, 5);
        y.sync(0, 1);
        y.move(0, 0, 6, 6);
        y.takeBack(0);
        y.sync(0, 1);
        C.due("back to what user 1 wrote", 5, () -> y.columnOf(1, 0));
        C.due("it still stems from user 1's step", 1, () -> y.takeBack(1));
        C.due("first place", 0, () -> y.columnOf(1, 0));
    }

    // Terms: When shapes and connectors are added, they get the next numbers, which are the same ones for all users.
    private static void nextNumbers() {
        Plugboard x = new Plugboard();
        C.due("shape 0", 0, () -> x.addShape(2, 0, 0, 1, 1, false));
        C.due("shape 1, though user 1 knows none", 1, () -> x.addShape(1, 2, 0, 1, 1, false));
        x.takeBack(1);
        C.due("shape 2, though shape 1 is taken back", 2, () -> x.addShape(1, 4, 0, 1, 1, false));
        x.remove(1, 2);
        C.due("shape 3, though shape 2 is removed", 3, () -> x.addShape(1, 6, 0, 1, 1, false));
        x.sync(1, 2);
        C.due("the same ones for all", 6, () -> x.columnOf(2, 3));
        C.due("the same ones for all", 0, () -> x.columnOf(1, 0));
        C.due("connector 0", 0, () -> x.connect(2, 0, 't', 3, 't'));
        C.due("connector 1", 1, () -> x.connect(1, 0, 'b', 3, 'b'));
        x.takeBack(1);
        C.due("connector 2", 2, () -> x.connect(1, 0, 'r', 3, 'l'));
        x.disconnect(1, 2);
        C.due("connector 3", 3, () -> x.connect(2, 0, 'b', 3, 'b'));
    }

    // Terms: To take the last step back that a user has made and that is not taken back
    private static void takenBackInTurn() {
        Plugboard x = row(1);
        x.move(0, 0, 1, 1);
        x.show(1, true);
        x.move(0, 0, 2, 2);
        C.due("the last one", 1, () -> x.takeBack(0));
        C.due("back to the second place", 1, () -> x.columnOf(0, 0));
        x.lock(0, 0);
        C.due("a new one", 1, () -> x.takeBack(0));
        C.due("nobody", -1, () -> x.lockedBy(0, 0));
        C.due("the one that is not taken back yet", 1, () -> x.takeBack(0));
        C.due("back to the first place", 0, () -> x.columnOf(0, 0));
        C.due("the first one", 3, () -> x.takeBack(0));
        C.due("gone", 0, () -> x.shapes(0));
        C.due("none is left", Check.ELEMENT, () -> x.takeBack(0));
        C.due("another user's is left", 1, () -> x.takeBack(1));
        C.due("none is left", Check.ELEMENT, () -> x.takeBack(1));
        C.due("one operation each", 10, () -> x.operations());
    }

    // Terms: this makes one operation, also if it writes nothing, and is no step itself
    private static void takenBackNothing() {
        Plugboard x = row(1);
        syncAll(x);
        x.move(0, 0, 5, 5);
        x.sync(0, 1);
        x.move(1, 0, 7, 7);
        x.sync(0, 1);
        C.due("the place is user 1's by now", 0, () -> x.takeBack(0));
        C.due("one operation", 4, () -> x.operations());
        C.due("of its user", 0, () -> x.userOf(3));
        C.due("with a clock", 4, () -> x.clockOf(3));
        C.due("which the user knows", true, () -> x.knows(0, 3));
        C.due("all values stay", 7, () -> x.columnOf(0, 0));
        C.due("it can be delivered", 4, () -> x.deliver(1, 3));
        C.due("alike", true, () -> x.areAlike(0, 1));
        C.due("the step is taken back all the same: the next one is", 2, () -> x.takeBack(0));
        C.due("gone", 0, () -> x.shapes(0));
    }

    private static void takenBackIsNoStep() {
        Plugboard x = new Plugboard();
        x.show(0, true);
        C.due("the step", 1, () -> x.takeBack(0));
        C.due("hidden", Check.UNSUPPORTED, () -> x.winner(0));
        C.due("not its taking back", Check.ELEMENT, () -> x.takeBack(0));
        C.due("still hidden", Check.UNSUPPORTED, () -> x.winner(0));
        x.show(0, true);
        C.due("the next step", 1, () -> x.takeBack(0));
        C.due("not its taking back", Check.ELEMENT, () -> x.takeBack(0));
        C.due("two steps and two takings back", 4, () -> x.operations());
    }

    // Terms: the value that it had there ahead of the step
    private static void takenBackToWhatWasThere() {
        Plugboard x = row(1);
        syncAll(x);
        x.move(1, 0, 5, 5);
        x.show(0, true);
        x.move(0, 0, 9, 9);
        x.sync(0, 1);
        C.due("the later place", 9, () -> x.columnOf(1, 0));
        C.due("one field", 1, () -> x.takeBack(0));
        C.due("not what user 1 wrote, which came after the step", 0, () -> x.columnOf(0, 0));
        x.sync(0, 1);
        C.due("on both boards", 0, () -> x.columnOf(1, 0));
        C.due("the place does not stem from user 1's step", 0, () -> x.takeBack(1));
        C.due("it stems from adding the shape, and so do key and being there", 1, () -> x.takeBack(0));
        C.due("three fields", 3, () -> x.takeBack(0));
    }

    // Terms: and whose value on the user's board stems from this step
    private static void takenBackInPart() {
        for (int number = 0; number < 8; number++) {
            int changed = number;
            Plugboard x = new Plugboard();
            x.addShape(0, 0, 0, 4, 4, true);
            x.addShape(0, 1, 1, 1, 1, false);
            x.addShape(0, 2, 2, 1, 1, false);
            x.move(0, 0, 10, 10);
            x.sync(0, 1);
            // The frame goes last, for it carries along what user 1 has left in it.
            for (int shape = 2; shape >= 0; shape--) {
                if ((changed >> shape & 1) == 1) {
                    x.move(1, shape, 20 - shape, 0);
                }
            }
            x.sync(0, 1);
            boolean isFrameMoved = (changed & 1) == 1;
            int due = isFrameMoved ? 0 : 3 - Integer.bitCount(changed);
            C.due("fields that are still the step's, " + changed, due, () -> x.takeBack(0));
        }
    }

    // Terms: A method that throws an exception changes nothing.
    private static void refusedTakingBack() {
        Plugboard x = Boards.full();
        C.due("no room", Check.STATE, () -> x.takeBack(0));
        C.due("votes stay", 1, () -> x.ownVotes(0, Boards.OTHER));
        C.due("the step is not taken back", Check.STATE, () -> x.takeBack(0));
        C.due("operations", 250, () -> x.operations());
    }

    // Terms: the remainder of the division by 1000003 is kept
    private static void outcomeOfOthers() {
        Plugboard x = new Plugboard();
        long due = 0;
        for (int s = 0; s < 12; s++) {
            int shape = s;
            x.addShape(0, 23 - shape, 15 - shape, 1, 1, shape % 2 == 0);
            for (int number : new int[] {shape, 23 - shape, 15 - shape, shape}) {
                due = (due * 31 + number + 1) % 1000003;
            }
            C.due("outcome of " + (shape + 1), (int) due, () -> x.outcome(0));
            C.due("outcome anew of " + (shape + 1), (int) due, () -> x.outcomeAnew(0));
        }
        C.due("0 at first", 0, () -> x.outcome(1));
        C.due("0 at first", 0, () -> x.outcomeAnew(1));
        x.sync(0, 1);
        C.due("all of them", (int) due, () -> x.outcome(1));
        C.due("all of them", 1, () -> x.outcomes(1, 4));
    }
}
