/** Promises 17 to 46, at their bounds: what each call refuses, in which order, and what it answers just within them. */
public final class AnswerBoundsTest {
    private static final Check C = new Check("AnswerBoundsTest");
    private static final Refusal R = new Refusal(C);

    public static void main(String[] args) {
        operations();
        userOf();
        clockOf();
        knows();
        shapes();
        sees();
        columnOf();
        rowOf();
        rankOf();
        shapeAt();
        keyOf();
        keyBits();
        keyCut();
        topAtCells();
        topAtNone();
        lockedBy();
        inside();
        connectors();
        bends();
        bendsByRounds();
        routeLength();
        ownVotes();
        votesFor();
        winner();
        outcome();
        outcomeAnew();
        outcomes();
        areAlike();
        frameShare();
        meanRoute();
        area();
        C.end();
    }

    // Promise 17: Returns the number of operations.
    private static void operations() {
        C.due("none", 0, () -> new Plugboard().operations());
        C.due("a few", 16, () -> Boards.mixed().operations());
        C.due("all", 250, () -> Boards.full().operations());
    }

    // Promise 18: Throws `NoSuchElementException` if there is no such operation
    private static void userOf() {
        R.noOperation("userOf", Boards::mixed, (x, operation) -> x.userOf(operation));
        R.noOperation("userOf", Boards::full, (x, operation) -> x.userOf(operation));
        R.noOperation("userOf", Plugboard::new, (x, operation) -> x.userOf(operation));
        C.due("the first", 0, () -> Boards.full().userOf(0));
        C.due("the last", 2, () -> Boards.full().userOf(249));
        C.due("the last", 1, () -> Boards.mixed().userOf(15));
    }

    // Promise 19: Throws `NoSuchElementException` if there is no such operation
    private static void clockOf() {
        R.noOperation("clockOf", Boards::mixed, (x, operation) -> x.clockOf(operation));
        R.noOperation("clockOf", Boards::full, (x, operation) -> x.clockOf(operation));
        R.noOperation("clockOf", Plugboard::new, (x, operation) -> x.clockOf(operation));
        C.due("the first", 1, () -> Boards.full().clockOf(0));
        // User 2 adds one shape and shows votes 234 times, and knows nobody else's operations.
        C.due("the last", 235, () -> Boards.full().clockOf(249));
    }

    // Promise 20: Throws `IllegalArgumentException` if there is no such user
    // Promise 20: Throws `NoSuchElementException` if there is no such operation
    private static void knows() {
        R.noUser("knows", Boards::mixed, (x, user) -> x.knows(user, 0));
        R.noUser("knows, first", Boards::mixed, (x, user) -> x.knows(user, 16));
        R.noOperation("knows", Boards::mixed, (x, operation) -> x.knows(0, operation));
        R.noOperation("knows", Boards::full, (x, operation) -> x.knows(2, operation));
        R.noOperation("knows", Plugboard::new, (x, operation) -> x.knows(2, operation));
        C.due("the first", true, () -> Boards.full().knows(0, 0));
        C.due("the first, not known", false, () -> Boards.full().knows(2, 0));
        C.due("the last", true, () -> Boards.full().knows(2, 249));
        C.due("the last, not known", false, () -> Boards.full().knows(1, 249));
    }

    // Promise 21: Throws `IllegalArgumentException` if there is no such user
    private static void shapes() {
        R.noUser("shapes", Boards::mixed, (x, user) -> x.shapes(user));
        C.due("none", 0, () -> new Plugboard().shapes(2));
        C.due("user 0", 4, () -> Boards.mixed().shapes(0));
        C.due("user 1", 5, () -> Boards.mixed().shapes(1));
        C.due("user 2", 1, () -> Boards.mixed().shapes(2));
        C.due("all", 12, () -> twelve().shapes(1));
    }

    private static Plugboard twelve() {
        Plugboard x = new Plugboard();
        for (int i = 0; i < 12; i++) {
            x.addShape(1, 2 * i, i, 2, 3, i == 11);
        }
        return x;
    }

    // Promise 22: Throws `IllegalArgumentException` if there is no such user
    // Promise 22: any number
    // Promise 22: Returns true if so; false if there is no such shape.
    private static void sees() {
        R.noUser("sees", Boards::mixed, (x, user) -> x.sees(user, 0));
        R.noUser("sees, first", Boards::mixed, (x, user) -> x.sees(user, -1));
        for (int shape : new int[] {-1, 6, 11, 12, 13, Integer.MIN_VALUE, Integer.MAX_VALUE}) {
            C.due("no shape " + shape, false, () -> Boards.mixed().sees(0, shape));
        }
        C.due("no shape at all", false, () -> new Plugboard().sees(0, 0));
        C.due("the first", true, () -> twelve().sees(1, 0));
        C.due("the last", true, () -> twelve().sees(1, 11));
        C.due("one more", false, () -> twelve().sees(1, 12));
        C.due("not known", false, () -> Boards.mixed().sees(0, Boards.UNKNOWN));
        C.due("removed", false, () -> Boards.mixed().sees(0, Boards.REMOVED));
        C.due("not known to be removed", true, () -> Boards.mixed().sees(1, Boards.REMOVED));
    }

    private static void ofAShape(String what, Refusal.NumberCall ofUser, Refusal.NumberCall ofShape) {
        R.noUser(what, Boards::mixed, ofUser);
        R.noShape(what, Boards::mixed, ofShape);
        R.noShape(what, Boards::full, ofShape);
        C.due(what + ", no shape at all", Check.ELEMENT, () -> ofShape.on(new Plugboard(), 0));
        C.due(what + ", one more than 12", Check.ELEMENT, () -> {
            Plugboard x = twelve();
            x.sync(0, 1);
            return ofShape.on(x, 12);
        });
    }

    // Promise 23: Throws `IllegalArgumentException` if there is no such user
    // Promise 23: Throws `NoSuchElementException` if there is no such shape, or the user does not see it
    private static void columnOf() {
        ofAShape("columnOf", (x, user) -> x.columnOf(user, 0), (x, shape) -> x.columnOf(0, shape));
        R.noUser("columnOf, first", Boards::mixed, (x, user) -> x.columnOf(user, 6));
        C.due("the first column", 0, () -> twelve().columnOf(1, 0));
        C.due("a last column", 22, () -> twelve().columnOf(1, 11));
        C.due("where a removed one was", 15, () -> Boards.mixed().columnOf(1, Boards.REMOVED));
    }

    // Promise 24: Throws `IllegalArgumentException` if there is no such user
    // Promise 24: Throws `NoSuchElementException` if there is no such shape, or the user does not see it
    private static void rowOf() {
        ofAShape("rowOf", (x, user) -> x.rowOf(user, 0), (x, shape) -> x.rowOf(0, shape));
        R.noUser("rowOf, first", Boards::mixed, (x, user) -> x.rowOf(user, 6));
        C.due("the first row", 0, () -> twelve().rowOf(1, 0));
        C.due("another row", 11, () -> twelve().rowOf(1, 11));
        C.due("where a removed one was", 10, () -> Boards.mixed().rowOf(1, Boards.REMOVED));
    }

    // Promise 25: Throws `IllegalArgumentException` if there is no such user
    // Promise 25: Throws `NoSuchElementException` if there is no such shape, or the user does not see it
    private static void rankOf() {
        ofAShape("rankOf", (x, user) -> x.rankOf(user, 0), (x, shape) -> x.rankOf(0, shape));
        R.noUser("rankOf, first", Boards::mixed, (x, user) -> x.rankOf(user, 6));
        C.due("the lowest", 0, () -> twelve().rankOf(1, 0));
        C.due("the greatest", 11, () -> twelve().rankOf(1, 11));
        C.due("of one", 0, () -> Boards.mixed().rankOf(2, Boards.UNKNOWN));
    }

    // Promise 26: Throws `IllegalArgumentException` if there is no such user
    // Promise 26: Throws `IndexOutOfBoundsException` if there is no such rank
    private static void shapeAt() {
        R.noUser("shapeAt", Boards::mixed, (x, user) -> x.shapeAt(user, 0));
        R.noUser("shapeAt, first", Boards::mixed, (x, user) -> x.shapeAt(user, -1));
        for (int rank : new int[] {-1, 4, 5, 12, Integer.MIN_VALUE, Integer.MAX_VALUE}) {
            R.due("no rank " + rank, Check.BOUNDS, Boards::mixed, x -> x.shapeAt(0, rank));
        }
        R.due("no shapes", Check.BOUNDS, Plugboard::new, x -> x.shapeAt(0, 0));
        C.due("one more than 12", Check.BOUNDS, () -> twelve().shapeAt(1, 12));
        C.due("rank 11", 11, () -> twelve().shapeAt(1, 11));
        C.due("rank 0", 0, () -> Boards.mixed().shapeAt(0, 0));
        C.due("rank 3", 3, () -> Boards.mixed().shapeAt(0, 3));
        C.due("rank 4 of user 1", 5, () -> Boards.mixed().shapeAt(1, 4));
        C.due("rank 0 of user 2", 4, () -> Boards.mixed().shapeAt(2, 0));
    }

    // Promise 27: Throws `IllegalArgumentException` if there is no such user
    // Promise 27: Throws `NoSuchElementException` if there is no such shape, or the user does not see it
    private static void keyOf() {
        ofAShape("keyOf", (x, user) -> x.keyOf(user, 0), (x, shape) -> x.keyOf(0, shape));
        R.noUser("keyOf, first", Boards::mixed, (x, user) -> x.keyOf(user, 6));
        C.due("the first", 0.0f, () -> twelve().keyOf(1, 0));
        C.due("the last", 11.0f, () -> twelve().keyOf(1, 11));
        C.due("the smallest float", Float.MIN_VALUE, () -> Boards.tight().keyOf(0, 2));
    }

    // Promise 28: Throws `IllegalArgumentException` if there is no such user
    // Promise 28: Throws `NoSuchElementException` if there is no such shape, or the user does not see it
    private static void keyBits() {
        ofAShape("keyBits", (x, user) -> x.keyBits(user, 0), (x, shape) -> x.keyBits(0, shape));
        R.noUser("keyBits, first", Boards::mixed, (x, user) -> x.keyBits(user, 6));
        C.due("0.0f", 0, () -> twelve().keyBits(1, 0));
        C.due("1.0f", 0x3f800000, () -> twelve().keyBits(1, 1));
        C.due("11.0f", 0x41300000, () -> twelve().keyBits(1, 11));
        C.due("the smallest float", 1, () -> Boards.tight().keyBits(0, 2));
        C.due("the next float", 2, () -> Boards.tight().keyBits(0, 1));
        C.due("the smallest normal float", 0x00800000, () -> Boards.halved(126).keyBits(0, 1));
        C.due("the next half of it", 0x00400000, () -> Boards.halved(127).keyBits(0, 2));
        Plugboard x = Boards.mixed();
        x.lower(0, Boards.FREE);
        C.due("-1.0f", 0xbf800000, () -> x.keyBits(0, Boards.FREE));
        C.due("-2.0f", 0xc0000000, () -> {
            x.lower(0, Boards.FREE);
            return x.keyBits(0, Boards.FREE);
        });
    }

    // Promise 29: Throws `IllegalArgumentException` if there is no such user
    // Promise 29: Throws `NoSuchElementException` if there is no such shape, or the user does not see it
    // Promise 29: Returns the key of a shape times 8.0f, converted to int.
    private static void keyCut() {
        ofAShape("keyCut", (x, user) -> x.keyCut(user, 0), (x, shape) -> x.keyCut(0, shape));
        R.noUser("keyCut, first", Boards::mixed, (x, user) -> x.keyCut(user, 6));
        C.due("0.0f", 0, () -> twelve().keyCut(1, 0));
        C.due("11.0f", 88, () -> twelve().keyCut(1, 11));
        C.due("an eighth", 1, () -> Boards.halved(3).keyCut(0, 2));
        C.due("half of an eighth", 0, () -> Boards.halved(4).keyCut(0, 1));
        C.due("the smallest float", 0, () -> Boards.tight().keyCut(0, 2));
        C.due("towards 0", -7, () -> halvedBelow(4, false));
        int[] dues = {-8, -4, -2, -1, 0, 0};
        for (int i = 0; i < dues.length; i++) {
            int times = i;
            C.due("a negative key, halved " + times + " times", dues[times], () -> halvedBelow(times, true));
        }
    }

    // Shape 0 has the key 0.0f; shapes 1 and 2 go up to it from -1.0f by turns, or shape 2 alone down to -1.0f.
    private static int halvedBelow(int times, boolean isByTurns) {
        Plugboard x = new Plugboard();
        for (int i = 0; i < 3; i++) {
            x.addShape(0, 0, 0, 1, 1, false);
        }
        x.lower(0, 1);
        int last = 1;
        for (int i = 0; i < times; i++) {
            int shape = isByTurns ? 2 - i % 2 : 2;
            x.putAbove(0, shape, 3 - shape);
            last = shape;
        }
        return x.keyCut(0, last);
    }

    // Promise 30: Throws `IllegalArgumentException` if there is no such user, or there is no such cell
    private static void topAtCells() {
        R.noUser("topAt", Boards::mixed, (x, user) -> x.topAt(user, 4, 4));
        R.noUser("topAt, a bare cell", Boards::mixed, (x, user) -> x.topAt(user, 23, 0));
        for (int number : new int[] {-1, 24, 25, Integer.MIN_VALUE, Integer.MAX_VALUE}) {
            R.due("no column " + number, Check.ARGUMENT, Boards::mixed, x -> x.topAt(0, number, 4));
        }
        for (int number : new int[] {-1, 16, 17, 24, Integer.MIN_VALUE, Integer.MAX_VALUE}) {
            R.due("no row " + number, Check.ARGUMENT, Boards::mixed, x -> x.topAt(0, 4, number));
        }
        Plugboard x = new Plugboard();
        int[][] corners = {{0, 0}, {23, 0}, {0, 15}, {23, 15}};
        for (int i = 0; i < 4; i++) {
            int number = i;
            x.addShape(0, corners[i][0], corners[i][1], 1, 1, false);
            C.due("corner", number, () -> x.topAt(0, corners[number][0], corners[number][1]));
        }
    }

    // Promise 30: Throws `NoSuchElementException` if there is none
    // Promise 30: the shape with the greatest rank that covers a cell, of those that are no frames
    private static void topAtNone() {
        Plugboard empty = new Plugboard();
        C.due("no shapes", Check.ELEMENT, () -> empty.topAt(0, 0, 0));
        C.due("no shapes", Check.ELEMENT, () -> empty.topAt(2, 23, 15));
        R.due("a bare cell", Check.ELEMENT, Boards::mixed, x -> x.topAt(0, 23, 0));
        R.due("a frame alone", Check.ELEMENT, Boards::mixed, x -> x.topAt(0, 2, 2));
        R.due("a shape that is removed", Check.ELEMENT, Boards::mixed, x -> x.topAt(0, 15, 10));
        R.due("a shape that is not known", Check.ELEMENT, Boards::mixed, x -> x.topAt(0, 20, 12));
        Plugboard x = Boards.mixed();
        C.due("below a frame of a greater rank", Boards.FREE, () -> x.topAt(0, 4, 4));
        Plugboard y = new Plugboard();
        for (int i = 0; i < 3; i++) {
            y.addShape(0, 5, 5, 2, 2, false);
        }
        y.lower(0, 2);
        C.due("the greatest rank, not the greatest number", 1, () -> y.topAt(0, 6, 6));
        y.raise(0, 0);
        C.due("the greatest rank, not the greatest number", 0, () -> y.topAt(0, 6, 6));
        int[][] around = {{9, 4}, {13, 4}, {10, 3}, {10, 6}};
        int[][] within = {{10, 4}, {12, 4}, {10, 5}, {12, 5}};
        for (int i = 0; i < 4; i++) {
            int[] out = around[i];
            int[] in = within[i];
            C.due("beside the shape", Check.ELEMENT, () -> x.topAt(0, out[0], out[1]));
            C.due("a corner of the shape", Boards.LOCKED, () -> x.topAt(0, in[0], in[1]));
        }
    }

    // Promise 31: Throws `IllegalArgumentException` if there is no such user
    // Promise 31: Throws `NoSuchElementException` if there is no such shape, or the user does not see it
    // Promise 31: Returns the user who has, or -1.
    private static void lockedBy() {
        ofAShape("lockedBy", (x, user) -> x.lockedBy(user, 0), (x, shape) -> x.lockedBy(0, shape));
        R.noUser("lockedBy, first", Boards::mixed, (x, user) -> x.lockedBy(user, 6));
        C.due("nobody", -1, () -> Boards.mixed().lockedBy(0, Boards.FREE));
        C.due("user 1", 1, () -> Boards.mixed().lockedBy(0, Boards.LOCKED));
        Plugboard x = Boards.mixed();
        x.lock(0, Boards.FREE);
        x.lock(2, Boards.UNKNOWN);
        C.due("user 0", 0, () -> x.lockedBy(0, Boards.FREE));
        C.due("nobody there", -1, () -> x.lockedBy(1, Boards.FREE));
        C.due("user 2", 2, () -> x.lockedBy(2, Boards.UNKNOWN));
    }

    // Promise 32: Throws `IllegalArgumentException` if there is no such user
    // Promise 32: Throws `NoSuchElementException` if there is no such shape, or the user does not see it
    // Promise 32: whether it is a frame or not
    private static void inside() {
        ofAShape("inside", (x, user) -> x.inside(user, 0), (x, shape) -> x.inside(0, shape));
        R.noUser("inside, first", Boards::mixed, (x, user) -> x.inside(user, 6));
        C.due("itself does not count", 0, () -> Boards.mixed().inside(2, Boards.UNKNOWN));
        C.due("in a frame", 1, () -> Boards.mixed().inside(0, Boards.FRAME));
        Plugboard x = new Plugboard();
        for (int i = 0; i < 12; i++) {
            x.addShape(0, 8, 4, 8, 8, i % 2 == 0);
        }
        C.due("all others, of the same size", 11, () -> x.inside(0, 11));
        x.remove(0, 0);
        C.due("those that are seen", 10, () -> x.inside(0, 11));
    }

    // Promise 33: Throws `IllegalArgumentException` if there is no such user
    private static void connectors() {
        R.noUser("connectors", Boards::mixed, (x, user) -> x.connectors(user));
        C.due("none", 0, () -> new Plugboard().connectors(1));
        C.due("user 0", 2, () -> Boards.mixed().connectors(0));
        C.due("user 1", 5, () -> Boards.mixed().connectors(1));
        C.due("user 2", 0, () -> Boards.mixed().connectors(2));
        Plugboard x = new Plugboard();
        x.addShape(2, 0, 0, 1, 1, false);
        x.addShape(2, 5, 5, 1, 1, false);
        for (int i = 0; i < 8; i++) {
            x.connect(2, i % 2, 't', 1 - i % 2, 't');
        }
        C.due("all", 8, () -> x.connectors(2));
        C.due("the last has no way", Check.UNSUPPORTED, () -> x.bends(2, 7));
    }

    private static void ofAConnector(String what, Refusal.NumberCall ofUser, Refusal.NumberCall ofConnector) {
        R.noUser(what, Boards::mixed, ofUser);
        R.noConnector(what, Boards::mixed, ofConnector);
        R.noConnector(what, Boards::full, ofConnector);
        R.due(what + ", an end beyond the board", Check.UNSUPPORTED, Boards::mixed,
                x -> ofConnector.on(x, Boards.BLOCKED));
        R.due(what + ", a covered end", Check.UNSUPPORTED, AnswerBoundsTest::covered,
                x -> ofConnector.on(x, Boards.LINE));
        C.due(what + ", no connector at all", Check.ELEMENT, () -> ofConnector.on(new Plugboard(), 0));
    }

    private static Plugboard covered() {
        Plugboard x = Boards.mixed();
        x.move(0, Boards.OTHER, 9, 4);
        return x;
    }

    // Promise 34: Throws `IllegalArgumentException` if there is no such user
    // Promise 34: Throws `NoSuchElementException` if there is no such connector, or the user does not see it
    // Promise 34: Throws `UnsupportedOperationException` if there is no way
    private static void bends() {
        ofAConnector("bends", (x, user) -> x.bends(user, 0), (x, connector) -> x.bends(0, connector));
        R.noUser("bends, first", Boards::mixed, (x, user) -> x.bends(user, Boards.NO_CONNECTOR));
        C.due("straight", 0, () -> Boards.mixed().bends(0, Boards.LINE));
    }

    // Promise 35: Throws `IllegalArgumentException` if there is no such user
    // Promise 35: Throws `NoSuchElementException` if there is no such connector, or the user does not see it
    // Promise 35: Throws `UnsupportedOperationException` if there is no way
    private static void bendsByRounds() {
        ofAConnector("bendsByRounds", (x, user) -> x.bendsByRounds(user, 0),
                (x, connector) -> x.bendsByRounds(0, connector));
        R.noUser("bendsByRounds, first", Boards::mixed, (x, user) -> x.bendsByRounds(user, Boards.NO_CONNECTOR));
        C.due("straight", 0, () -> Boards.mixed().bendsByRounds(0, Boards.LINE));
    }

    // Promise 36: Throws `IllegalArgumentException` if there is no such user
    // Promise 36: Throws `NoSuchElementException` if there is no such connector, or the user does not see it
    // Promise 36: Throws `UnsupportedOperationException` if there is no way
    // Promise 36: Returns the number of cells of the route of a connector, both ends included.
    private static void routeLength() {
        ofAConnector("routeLength", (x, user) -> x.routeLength(user, 0),
                (x, connector) -> x.routeLength(0, connector));
        R.noUser("routeLength, first", Boards::mixed, (x, user) -> x.routeLength(user, Boards.NO_CONNECTOR));
        C.due("both ends included", 4, () -> Boards.mixed().routeLength(0, Boards.LINE));
    }

    // Promise 37: Throws `IllegalArgumentException` if there is no such user
    // Promise 37: Throws `NoSuchElementException` if there is no such shape, or the user does not see it
    private static void ownVotes() {
        ofAShape("ownVotes", (x, user) -> x.ownVotes(user, 0), (x, shape) -> x.ownVotes(0, shape));
        R.noUser("ownVotes, first", Boards::mixed, (x, user) -> x.ownVotes(user, 6));
        C.due("three", 3, () -> Boards.mixed().ownVotes(0, Boards.FREE));
        C.due("none", 0, () -> Boards.mixed().ownVotes(0, Boards.LOCKED));
        C.due("of another user", 0, () -> Boards.mixed().ownVotes(1, Boards.FREE));
        C.due("while votes are shown", 3, () -> Boards.mixedAndShown().ownVotes(0, Boards.FREE));
    }

    // Promise 38: Throws `IllegalArgumentException` if there is no such user
    // Promise 38: Throws `NoSuchElementException` if there is no such shape, or the user does not see it
    // Promise 38: Throws `UnsupportedOperationException` if votes are not shown on this board
    private static void votesFor() {
        R.noUser("votesFor", Boards::mixedAndShown, (x, user) -> x.votesFor(user, 0));
        R.noUser("votesFor, first", Boards::mixed, (x, user) -> x.votesFor(user, 6));
        R.noShape("votesFor", Boards::mixedAndShown, (x, shape) -> x.votesFor(0, shape));
        R.noShape("votesFor, ahead of hidden", Boards::mixed, (x, shape) -> x.votesFor(0, shape));
        R.due("hidden", Check.UNSUPPORTED, Boards::mixed, x -> x.votesFor(0, Boards.FREE));
        R.due("hidden, none", Check.UNSUPPORTED, Boards::mixed, x -> x.votesFor(0, Boards.LOCKED));
        R.due("shown on another board", Check.UNSUPPORTED, Boards::mixedAndShown, x -> x.votesFor(1, Boards.FREE));
        C.due("none", 0, () -> Boards.mixedAndShown().votesFor(0, Boards.LOCKED));
        C.due("three", 3, () -> Boards.mixedAndShown().votesFor(0, Boards.FREE));
        Plugboard x = new Plugboard();
        x.addShape(0, 0, 0, 1, 1, false);
        x.sync(0, 1);
        x.sync(0, 2);
        for (int user = 0; user < 3; user++) {
            x.vote(user, 0, 3);
        }
        x.sync(0, 1);
        x.sync(0, 2);
        x.show(0, true);
        C.due("as many as there can be", 9, () -> x.votesFor(0, 0));
        C.due("of one user each", 3, () -> x.ownVotes(0, 0));
        votesAlone();
    }

    // 12 shapes, locked, and 8 connectors: what else is on the board counts for no votes.
    private static void votesAlone() {
        Plugboard x = twelve();
        for (int i = 0; i < 12; i++) {
            x.lock(1, i);
        }
        for (int i = 0; i < 8; i++) {
            x.connect(1, i, 't', i + 1, 'b');
        }
        x.show(1, true);
        for (int s = 0; s < 12; s++) {
            int shape = s;
            C.due("no votes for " + shape, 0, () -> x.votesFor(1, shape));
            C.due("no own votes for " + shape, 0, () -> x.ownVotes(1, shape));
        }
        C.due("no votes at all", Check.ELEMENT, () -> x.winner(1));
    }

    // Promise 39: Throws `IllegalArgumentException` if there is no such user
    // Promise 39: Throws `UnsupportedOperationException` if votes are not shown on this board
    // Promise 39: Throws `NoSuchElementException` if no shape that the user sees has votes
    // Promise 39: of several, the one with the lowest number
    private static void winner() {
        R.noUser("winner", Boards::mixedAndShown, (x, user) -> x.winner(user));
        R.noUser("winner, hidden", Boards::mixed, (x, user) -> x.winner(user));
        R.due("hidden", Check.UNSUPPORTED, Boards::mixed, x -> x.winner(0));
        R.due("hidden ahead of none", Check.UNSUPPORTED, Boards::mixed, x -> x.winner(2));
        R.due("hidden ahead of none", Check.UNSUPPORTED, Plugboard::new, x -> x.winner(0));
        R.due("shown on another board", Check.UNSUPPORTED, Boards::mixedAndShown, x -> x.winner(1));
        R.due("none", Check.ELEMENT, AnswerBoundsTest::shownWithout, x -> x.winner(0));
        R.due("no shapes", Check.ELEMENT, AnswerBoundsTest::shownEmpty, x -> x.winner(0));
        R.due("none that is seen", Check.ELEMENT, AnswerBoundsTest::shownGone, x -> x.winner(0));
        C.due("the most", Boards.FREE, () -> Boards.mixedAndShown().winner(0));
        Plugboard x = new Plugboard();
        for (int i = 0; i < 12; i++) {
            x.addShape(0, 0, 0, 1, 1, false);
        }
        x.vote(0, 11, 1);
        x.show(0, true);
        C.due("the last shape, with one vote", 11, () -> x.winner(0));
        x.show(0, false);
        x.vote(0, 4, 1);
        x.vote(0, 7, 1);
        x.show(0, true);
        C.due("the lowest number of three", 4, () -> x.winner(0));
        x.show(0, false);
        x.vote(0, 11, 2);
        x.show(0, true);
        C.due("one more vote", 11, () -> x.winner(0));
        x.sync(0, 2);
        x.show(2, false);
        x.vote(2, 7, 3);
        x.show(2, true);
        C.due("all users together", 7, () -> x.winner(2));
    }

    private static Plugboard shownWithout() {
        Plugboard x = Boards.mixed();
        x.vote(0, Boards.FREE, 0);
        x.vote(0, Boards.OTHER, 0);
        x.show(0, true);
        return x;
    }

    private static Plugboard shownEmpty() {
        Plugboard x = new Plugboard();
        x.show(0, true);
        return x;
    }

    private static Plugboard shownGone() {
        Plugboard x = Boards.mixedAndShown();
        x.remove(0, Boards.FREE);
        x.remove(0, Boards.OTHER);
        return x;
    }

    // Promise 40: Throws `IllegalArgumentException` if there is no such user
    // Terms: The outcome of a board is a number, 0 at first
    private static void outcome() {
        R.noUser("outcome", Boards::mixed, (x, user) -> x.outcome(user));
        C.due("0 at first", 0, () -> new Plugboard().outcome(1));
        // ((1 * 31 + 1) * 31 + 1) * 31 + 1
        C.due("shape 0 at 0, 0 with rank 0", 30784, () -> corner(0, 0).outcome(0));
        // ((1 * 31 + 24) * 31 + 16) * 31 + 1
        C.due("shape 0 in the last corner", 53352, () -> corner(23, 15).outcome(0));
        // Behind it shape 1 at 0, 0 with rank 1: 53352 becomes 1653914, so 653911, and so on.
        C.due("beyond 1000003", 605155, () -> twoCorners().outcome(0));
    }

    private static Plugboard corner(int column, int row) {
        Plugboard x = new Plugboard();
        x.addShape(0, column, row, 1, 1, false);
        return x;
    }

    private static Plugboard twoCorners() {
        Plugboard x = corner(23, 15);
        x.addShape(0, 0, 0, 1, 1, false);
        return x;
    }

    // Promise 41: Throws `IllegalArgumentException` if there is no such user
    private static void outcomeAnew() {
        R.noUser("outcomeAnew", Boards::mixed, (x, user) -> x.outcomeAnew(user));
        C.due("0 at first", 0, () -> new Plugboard().outcomeAnew(1));
        C.due("shape 0 at 0, 0 with rank 0", 30784, () -> corner(0, 0).outcomeAnew(0));
        C.due("beyond 1000003", 605155, () -> twoCorners().outcomeAnew(0));
        Plugboard x = Boards.full();
        x.sync(0, 2);
        x.sync(1, 2);
        for (int u = 0; u < 3; u++) {
            int user = u;
            C.due("of 250 operations", x.outcome(user), () -> x.outcomeAnew(user));
        }
        anewInAnyOrder();
    }

    // Promise 41: delivering all operations that the user knows, the earliest one first, to an empty board
    private static void anewInAnyOrder() {
        int[][] orders = {{0, 1, 2}, {0, 2, 1}, {1, 0, 2}, {1, 2, 0}, {2, 0, 1}, {2, 1, 0}};
        for (int[] order : orders) {
            Plugboard x = new Plugboard();
            for (int user : order) {
                x.addShape(user, user, 0, 1, 1, false);
            }
            for (int u = 0; u < 3; u++) {
                int user = u;
                C.due("one shape", 1, () -> x.shapes(user));
                C.due("of one operation", x.outcome(user), () -> x.outcomeAnew(user));
            }
            x.sync(0, 1);
            x.sync(1, 2);
            x.move(2, 0, 20, 9);
            x.move(1, 0, 10, 5);
            x.sync(1, 2);
            x.sync(1, 0);
            for (int u = 0; u < 3; u++) {
                int user = u;
                C.due("as it is kept", x.outcome(user), () -> x.outcomeAnew(user));
                C.due("in all orders", 1, () -> x.outcomes(user, 4));
            }
        }
    }

    // Promise 42: Throws `IllegalArgumentException` if there is no such user, or the number is out of range
    // Promise 42: the number, 0 to 4; all that the user knows if these are fewer
    private static void outcomes() {
        R.noUser("outcomes", Boards::mixed, (x, user) -> x.outcomes(user, 2));
        R.noUser("outcomes, both", Boards::mixed, (x, user) -> x.outcomes(user, 5));
        for (int many : new int[] {-1, 5, 6, Integer.MIN_VALUE, Integer.MAX_VALUE}) {
            R.due("number " + many, Check.ARGUMENT, Boards::mixed, x -> x.outcomes(0, many));
            R.due("number " + many, Check.ARGUMENT, Plugboard::new, x -> x.outcomes(2, many));
        }
        for (int number = 0; number <= 4; number++) {
            int many = number;
            C.due("of no operations", 1, () -> new Plugboard().outcomes(1, many));
            C.due("of one operation", 1, () -> corner(3, 3).outcomes(0, many));
            C.due("of two operations", 1, () -> twoCorners().outcomes(0, many));
            C.due("of some operations", 1, () -> Boards.mixed().outcomes(0, many));
            C.due("of 235 operations", 1, () -> Boards.full().outcomes(2, many));
        }
        Plugboard x = Boards.full();
        x.sync(0, 2);
        x.sync(1, 2);
        C.due("of 250 operations", 1, () -> x.outcomes(1, 4));
    }

    // Promise 43: Throws `IllegalArgumentException` if there is no such user
    // Promise 43: another user, or the same one
    private static void areAlike() {
        R.noUser("areAlike", Boards::mixed, (x, user) -> x.areAlike(user, 0));
        R.noUser("areAlike, the other one", Boards::mixed, (x, user) -> x.areAlike(0, user));
        R.noUser("areAlike, both", Boards::mixed, (x, user) -> x.areAlike(user, user));
        for (int number = 0; number < 3; number++) {
            int user = number;
            int other = (number + 1) % 3;
            C.due("the same one", true, () -> Boards.mixed().areAlike(user, user));
            C.due("empty ones", true, () -> new Plugboard().areAlike(user, other));
            C.due("different ones", false, () -> Boards.mixed().areAlike(user, other));
            C.due("different ones, the other way round", false, () -> Boards.mixed().areAlike(other, user));
        }
    }

    // Promise 44: Throws `IllegalArgumentException` if there is no such user
    // Promise 44: Throws `ArithmeticException` if the user sees no shapes
    // Promise 44: their number divided by that of all of them, both converted to float
    private static void frameShare() {
        R.noUser("frameShare", Boards::mixed, (x, user) -> x.frameShare(user));
        R.noUser("frameShare, no shapes", Plugboard::new, (x, user) -> x.frameShare(user));
        R.due("no shapes", Check.ARITHMETIC, Plugboard::new, x -> x.frameShare(0));
        R.due("all are removed", Check.ARITHMETIC, AnswerBoundsTest::gone, x -> x.frameShare(2));
        C.due("no frames", 0.0f, () -> Boards.mixed().frameShare(2));
        C.due("a quarter", 0.25f, () -> Boards.mixed().frameShare(0));
        C.due("a fifth, as a float", 0.2f, () -> Boards.mixed().frameShare(1));
        C.due("a twelfth", 1.0f / 12.0f, () -> twelve().frameShare(1));
        Plugboard x = new Plugboard();
        x.addShape(0, 0, 0, 1, 1, true);
        C.due("frames alone", 1.0f, () -> x.frameShare(0));
    }

    private static Plugboard gone() {
        Plugboard x = Boards.mixed();
        x.remove(2, Boards.UNKNOWN);
        return x;
    }

    // Promise 45: Throws `IllegalArgumentException` if there is no such user
    // Promise 45: Throws `ArithmeticException` if there are none
    // Promise 45: of the connectors that a user sees and that have a way
    private static void meanRoute() {
        R.noUser("meanRoute", Boards::mixed, (x, user) -> x.meanRoute(user));
        R.noUser("meanRoute, none", Plugboard::new, (x, user) -> x.meanRoute(user));
        R.due("no connectors", Check.ARITHMETIC, Plugboard::new, x -> x.meanRoute(0));
        R.due("no connectors that are seen", Check.ARITHMETIC, Boards::mixed, x -> x.meanRoute(2));
        R.due("none with a way", Check.ARITHMETIC, AnswerBoundsTest::wayless, x -> x.meanRoute(0));
        C.due("one of two has a way", 4.0, () -> Boards.mixed().meanRoute(0));
        Plugboard x = Boards.mixed();
        x.connect(0, Boards.FREE, 'r', Boards.LOCKED, 'r');
        C.due("another one", 10, () -> x.routeLength(0, Boards.NO_CONNECTOR));
        C.due("the mean of two", 7.0, () -> x.meanRoute(0));
        x.connect(0, Boards.FREE, 't', Boards.LOCKED, 'l');
        C.due("a third one", 7, () -> x.routeLength(0, 6));
        C.due("the mean of three", 7.0, () -> x.meanRoute(0));
        x.disconnect(0, Boards.NO_CONNECTOR);
        C.due("a mean that is no whole number", 5.5, () -> x.meanRoute(0));
    }

    private static Plugboard wayless() {
        Plugboard x = Boards.mixed();
        x.disconnect(0, Boards.LINE);
        return x;
    }

    // Promise 46: Throws `IllegalArgumentException` if there is no such user
    private static void area() {
        R.noUser("area", Boards::mixed, (x, user) -> x.area(user));
        C.due("no shapes", 0L, () -> new Plugboard().area(2));
        C.due("the smallest", 1L, () -> corner(0, 0).area(0));
        C.due("all removed", 0L, () -> gone().area(2));
        C.due("user 0", 4L + 6 + 36 + 1, () -> Boards.mixed().area(0));
        C.due("user 1", 4L + 6 + 36 + 1 + 4, () -> Boards.mixed().area(1));
        Plugboard x = new Plugboard();
        for (int i = 0; i < 12; i++) {
            x.addShape(0, i, i % 8, 8, 8, i % 2 == 0);
        }
        C.due("the greatest", 768L, () -> x.area(0));
    }
}
