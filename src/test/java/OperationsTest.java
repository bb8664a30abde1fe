/** Promises 14 to 20: taking back, delivering, and what is known. */
public final class OperationsTest {
    private static final Check C = new Check("OperationsTest");

    public static void main(String[] args) {
        clocks();
        deliver();
        sync();
        laterWins();
        equalClocks();
        takeBackInTurn();
        takeBackStems();
        takeBackOverOthers();
        takeBackKeepsStem();
        takeBackOfAddShape();
        takeBackExceptions();
        C.end();
    }

    private static void clocks() {
        Plugboard x = new Plugboard();
        C.due("no operation", Check.ELEMENT, () -> x.clockOf(0));
        C.due("no operation", Check.ELEMENT, () -> x.userOf(0));
        C.due("no operation", Check.ELEMENT, () -> x.knows(0, 0));
        x.addShape(0, 0, 0, 1, 1, false);
        x.move(0, 0, 1, 1);
        x.show(1, true);
        x.deliver(1, 1);
        x.show(1, true);
        x.takeBack(2 - 1);
        int[] users = {0, 0, 1, 1, 1};
        int[] clocks = {1, 2, 1, 3, 4};
        for (int i = 0; i < 5; i++) {
            int operation = i;
            C.due("user of " + i, users[i], () -> x.userOf(operation));
            C.due("clock of " + i, clocks[i], () -> x.clockOf(operation));
        }
        C.due("operations", 5, () -> x.operations());
        x.deliver(0, 2);
        x.show(0, false);
        C.due("a lower clock changes nothing", 3, () -> x.clockOf(5));
        C.due("no operation", Check.ELEMENT, () -> x.clockOf(6));
        C.due("no operation", Check.ELEMENT, () -> x.clockOf(-1));
        C.due("no operation", Check.ELEMENT, () -> x.userOf(6));
        C.due("no operation", Check.ELEMENT, () -> x.userOf(-1));
        C.due("own one", true, () -> x.knows(0, 0));
        C.due("delivered", true, () -> x.knows(1, 1));
        C.due("not delivered", false, () -> x.knows(1, 0));
        C.due("not delivered", false, () -> x.knows(2, 5));
        C.due("no operation", Check.ELEMENT, () -> x.knows(0, 6));
        C.due("no operation", Check.ELEMENT, () -> x.knows(0, -1));
        C.due("no user", Check.ARGUMENT, () -> x.knows(3, 0));
        C.due("no user ahead of no operation", Check.ARGUMENT, () -> x.knows(-1, 9));
    }

    private static void deliver() {
        Plugboard x = new Plugboard();
        x.addShape(0, 4, 5, 1, 1, false);
        x.move(0, 0, 7, 8);
        C.due("no user", Check.ARGUMENT, () -> x.deliver(3, 0));
        C.due("no user ahead of no operation", Check.ARGUMENT, () -> x.deliver(3, 2));
        C.due("no operation", Check.ELEMENT, () -> x.deliver(1, 2));
        C.due("no operation", Check.ELEMENT, () -> x.deliver(1, -1));
        C.due("own one", Check.STATE, () -> x.deliver(0, 0));
        C.due("deliver the move first", 1, () -> x.deliver(1, 1));
        C.due("not there yet", false, () -> x.sees(1, 0));
        C.due("twice", Check.STATE, () -> x.deliver(1, 1));
        C.due("deliver", 2, () -> x.deliver(1, 0));
        C.due("there", true, () -> x.sees(1, 0));
        C.due("the later place", 7, () -> x.columnOf(1, 0));
        C.due("the later place", 8, () -> x.rowOf(1, 0));
        C.due("own ones count", 3, () -> {
            x.show(2, true);
            x.show(2, true);
            return x.deliver(2, 0);
        });
        C.due("an early one alone", 4, () -> x.columnOf(2, 0));
    }

    private static void sync() {
        Plugboard x = new Plugboard();
        x.addShape(0, 0, 0, 1, 1, false);
        x.addShape(1, 1, 1, 1, 1, false);
        x.addShape(1, 2, 2, 1, 1, false);
        x.addShape(2, 3, 3, 1, 1, false);
        C.due("no user", Check.ARGUMENT, () -> x.sync(3, 0));
        C.due("no other user", Check.ARGUMENT, () -> x.sync(0, -1));
        C.due("same user", Check.ARGUMENT, () -> x.sync(1, 1));
        C.due("both ways", 3, () -> x.sync(0, 1));
        C.due("again", 0, () -> x.sync(1, 0));
        C.due("shapes", 3, () -> x.shapes(0));
        C.due("shapes", 3, () -> x.shapes(1));
        C.due("shapes of the third", 1, () -> x.shapes(2));
        C.due("what was delivered goes on", 4, () -> x.sync(2, 0));
        C.due("shapes", 4, () -> x.shapes(2));
        C.due("shapes", 3, () -> x.shapes(1));
        C.due("no operation of its own", 4, () -> x.operations());
    }

    private static void laterWins() {
        Plugboard x = new Plugboard();
        x.addShape(0, 0, 0, 1, 1, false);
        x.sync(0, 1);
        x.sync(0, 2);
        x.move(2, 0, 1, 0);
        x.move(0, 0, 2, 0);
        x.move(0, 0, 3, 0);
        x.sync(0, 2);
        C.due("the greater clock", 3, () -> x.columnOf(2, 0));
        C.due("the greater clock", 3, () -> x.columnOf(0, 0));
        x.remove(1, 0);
        x.sync(1, 0);
        C.due("removed, whatever is moved", false, () -> x.sees(0, 0));
        C.due("alike", true, () -> x.areAlike(0, 1));
        x.takeBack(1);
        C.due("place of the latest", 3, () -> x.columnOf(1, 0));
    }

    private static void equalClocks() {
        Plugboard x = new Plugboard();
        x.addShape(1, 0, 0, 1, 1, false);
        x.sync(0, 1);
        x.sync(0, 2);
        x.move(2, 0, 2, 0);
        x.move(1, 0, 1, 0);
        x.move(0, 0, 3, 0);
        x.deliver(0, 2);
        C.due("user 1 ahead of user 0", 1, () -> x.columnOf(0, 0));
        x.deliver(0, 1);
        C.due("user 2 ahead of user 1", 2, () -> x.columnOf(0, 0));
        x.deliver(1, 1);
        x.deliver(1, 3);
        C.due("in any order", 2, () -> x.columnOf(1, 0));
        x.deliver(2, 3);
        C.due("user 2 ahead of user 0", 2, () -> x.columnOf(2, 0));
    }

    private static void takeBackInTurn() {
        Plugboard x = new Plugboard();
        x.addShape(0, 0, 0, 1, 1, false);
        x.move(0, 0, 1, 0);
        x.move(0, 0, 2, 0);
        C.due("the last one", 1, () -> x.takeBack(0));
        C.due("column", 1, () -> x.columnOf(0, 0));
        C.due("the one before", 1, () -> x.takeBack(0));
        C.due("column", 0, () -> x.columnOf(0, 0));
        x.move(0, 0, 5, 0);
        C.due("a new one", 1, () -> x.takeBack(0));
        C.due("column", 0, () -> x.columnOf(0, 0));
        C.due("the first", 3, () -> x.takeBack(0));
        C.due("gone", false, () -> x.sees(0, 0));
        C.due("none left", Check.ELEMENT, () -> x.takeBack(0));
        C.due("one operation each", 8, () -> x.operations());
        C.due("of the user", 0, () -> x.userOf(7));
        C.due("with a clock", 8, () -> x.clockOf(7));
        x.sync(0, 1);
        C.due("the others' steps are not one's own", Check.ELEMENT, () -> x.takeBack(1));
    }

    private static void takeBackStems() {
        Plugboard x = new Plugboard();
        x.addShape(0, 0, 0, 1, 1, false);
        x.sync(0, 1);
        x.move(0, 0, 1, 0);
        x.sync(0, 1);
        x.move(1, 0, 2, 0);
        x.sync(0, 1);
        C.due("the place is the other's by now", 0, () -> x.takeBack(0));
        C.due("column", 2, () -> x.columnOf(0, 0));
        C.due("also an operation", 4, () -> x.operations());
        C.due("place no more, but there and key", 2, () -> x.takeBack(0));
        C.due("gone", false, () -> x.sees(0, 0));
        x.sync(0, 1);
        C.due("gone", false, () -> x.sees(1, 0));
        C.due("the other one's move", 1, () -> x.takeBack(1));
    }

    private static void takeBackOverOthers() {
        Plugboard x = new Plugboard();
        x.addShape(0, 0, 0, 8, 8, true);
        x.addShape(0, 1, 1, 1, 1, false);
        x.addShape(0, 2, 2, 1, 1, false);
        x.sync(0, 1);
        C.due("carry", 3, () -> x.move(0, 0, 10, 4));
        x.sync(0, 1);
        x.move(1, 1, 0, 0);
        C.due("not known yet", 3, () -> x.takeBack(0));
        C.due("column", 1, () -> x.columnOf(0, 1));
        x.sync(0, 1);
        // Both have the same clock; user 1's is the later one.
        C.due("column", 0, () -> x.columnOf(0, 1));
        C.due("column", 2, () -> x.columnOf(1, 2));
        C.due("alike", true, () -> x.areAlike(0, 1));

        Plugboard y = new Plugboard();
        y.addShape(0, 0, 0, 8, 8, true);
        y.addShape(0, 1, 1, 1, 1, false);
        y.addShape(0, 2, 2, 1, 1, false);
        y.sync(0, 1);
        y.move(0, 0, 10, 4);
        y.sync(0, 1);
        y.move(1, 1, 0, 0);
        y.sync(0, 1);
        C.due("all but the one that the other moved", 2, () -> y.takeBack(0));
        C.due("column", 0, () -> y.columnOf(0, 1));
        C.due("column", 2, () -> y.columnOf(0, 2));
        C.due("column", 0, () -> y.columnOf(0, 0));
    }

    private static void takeBackKeepsStem() {
        Plugboard x = new Plugboard();
        x.addShape(0, 0, 0, 1, 1, false);
        x.move(0, 0, 1, 0);
        x.sync(0, 1);
        x.move(1, 0, 2, 0);
        C.due("back to user 0's place", 1, () -> x.takeBack(1));
        x.sync(0, 1);
        C.due("column", 1, () -> x.columnOf(0, 0));
        C.due("it still stems from user 0's step", 1, () -> x.takeBack(0));
        C.due("column", 0, () -> x.columnOf(0, 0));
        x.sync(0, 1);
        C.due("column", 0, () -> x.columnOf(1, 0));

        Plugboard y = new Plugboard();
        y.addShape(0, 0, 0, 1, 1, false);
        y.sync(0, 1);
        y.lock(0, 0);
        y.takeBack(0);
        y.sync(0, 1);
        C.due("stems from none", -1, () -> y.lockedBy(1, 0));
        C.due("lock", 1, () -> y.lock(1, 0));
        C.due("taken back to nobody", 1, () -> y.takeBack(1));
        C.due("nobody", -1, () -> y.lockedBy(1, 0));

        Plugboard z = new Plugboard();
        z.addShape(0, 0, 0, 1, 1, false);
        z.sync(0, 1);
        z.move(0, 0, 1, 0);
        z.move(1, 0, 2, 0);
        z.deliver(0, 2);
        z.move(0, 0, 3, 0);
        C.due("back to the other's place", 1, () -> z.takeBack(0));
        C.due("column", 2, () -> z.columnOf(0, 0));
        C.due("which does not stem from one's own", 0, () -> z.takeBack(0));
        C.due("column", 2, () -> z.columnOf(0, 0));
    }

    private static void takeBackOfAddShape() {
        Plugboard x = new Plugboard();
        x.addShape(0, 5, 5, 2, 2, false);
        x.sync(0, 1);
        x.raise(1, 0);
        x.move(1, 0, 9, 9);
        x.sync(0, 1);
        C.due("only that it is there", 1, () -> x.takeBack(0));
        C.due("gone", 0, () -> x.shapes(0));

        Plugboard y = new Plugboard();
        y.addShape(0, 5, 5, 2, 2, false);
        y.remove(0, 0);
        y.takeBack(0);
        y.deliver(1, 2);
        C.due("there without its place", 0, () -> y.columnOf(1, 0));
        C.due("there without its place", 0, () -> y.rowOf(1, 0));
        C.due("there without its key", 0.0f, () -> y.keyOf(1, 0));
        C.due("its size is known", 4L, () -> y.area(1));
        C.due("that it is there stems from adding it", 3, () -> y.takeBack(0));
        y.sync(0, 1);
        C.due("gone", false, () -> y.sees(1, 0));
    }

    private static void takeBackExceptions() {
        Plugboard x = new Plugboard();
        C.due("no user", Check.ARGUMENT, () -> x.takeBack(3));
        C.due("none", Check.ELEMENT, () -> x.takeBack(0));
        x.show(0, true);
        x.takeBack(0);
        C.due("a taking back is no step", Check.ELEMENT, () -> x.takeBack(0));
        for (int i = 2; i < 249; i++) {
            x.show(1, true);
        }
        C.due("the last operation", 1, () -> x.takeBack(1));
        C.due("250 operations", Check.STATE, () -> x.takeBack(1));
        C.due("none ahead of 250 operations", Check.ELEMENT, () -> x.takeBack(0));
        C.due("no user ahead of none", Check.ARGUMENT, () -> x.takeBack(-1));
        C.due("operations", 250, () -> x.operations());
        C.due("clock", 248, () -> x.clockOf(249));
        C.due("all can be delivered", 248, () -> x.sync(1, 2));
        C.due("and found", true, () -> x.areAlike(1, 2));
    }
}
