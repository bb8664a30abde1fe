/** Promises 1 to 9: a new object, and the steps that change shapes. */
public final class ShapesTest {
    private static final Check C = new Check("ShapesTest");

    public static void main(String[] args) {
        newObject();
        addShape();
        addShapeKeys();
        move();
        moveFrame();
        moveNumberedOnly();
        raiseAndLower();
        putAbove();
        putAboveRefused();
        remove();
        lockAndUnlock();
        orderOfExceptions();
        C.end();
    }

    // Promise 1: Creates three empty boards.
    private static void newObject() {
        Plugboard x = new Plugboard();
        C.due("operations", 0, () -> x.operations());
        for (int u = 0; u < 3; u++) {
            int user = u;
            C.due("shapes", 0, () -> x.shapes(user));
            C.due("connectors", 0, () -> x.connectors(user));
            C.due("outcome", 0, () -> x.outcome(user));
            C.due("area", 0L, () -> x.area(user));
            C.due("areAlike", true, () -> x.areAlike(user, 0));
            C.due("no step", Check.ELEMENT, () -> x.takeBack(user));
            C.due("no shape", false, () -> x.sees(user, 0));
            C.due("no rank", Check.BOUNDS, () -> x.shapeAt(user, 0));
            C.due("nothing on a cell", Check.ELEMENT, () -> x.topAt(user, 0, 0));
            C.due("votes are hidden", Check.UNSUPPORTED, () -> x.winner(user));
        }
        Plugboard used = Boards.full();
        C.due("a new one, whatever an older one has", 0, () -> new Plugboard().operations());
        C.due("no shapes", 0, () -> new Plugboard().shapes(0));
        C.due("its first shape", 0, () -> new Plugboard().addShape(0, 0, 0, 1, 1, false));
        C.due("the older one stays", 250, () -> used.operations());
    }

    private static void addShape() {
        Plugboard x = new Plugboard();
        C.due("no user -1", Check.ARGUMENT, () -> x.addShape(-1, 0, 0, 1, 1, false));
        C.due("no user 3", Check.ARGUMENT, () -> x.addShape(3, 0, 0, 1, 1, false));
        C.due("column -1", Check.ARGUMENT, () -> x.addShape(0, -1, 0, 1, 1, false));
        C.due("row -1", Check.ARGUMENT, () -> x.addShape(0, 0, -1, 1, 1, false));
        C.due("column 24", Check.ARGUMENT, () -> x.addShape(0, 24, 0, 1, 1, false));
        C.due("row 16", Check.ARGUMENT, () -> x.addShape(0, 0, 16, 1, 1, false));
        C.due("width 0", Check.ARGUMENT, () -> x.addShape(0, 0, 0, 0, 1, false));
        C.due("width 9", Check.ARGUMENT, () -> x.addShape(0, 0, 0, 9, 1, false));
        C.due("height 0", Check.ARGUMENT, () -> x.addShape(0, 0, 0, 1, 0, false));
        C.due("height 9", Check.ARGUMENT, () -> x.addShape(0, 0, 0, 1, 9, false));
        C.due("beyond the columns", Check.ARGUMENT, () -> x.addShape(0, 17, 0, 8, 1, false));
        C.due("beyond the rows", Check.ARGUMENT, () -> x.addShape(0, 0, 9, 1, 8, false));
        C.due("greatest numbers", Check.ARGUMENT, () -> x.addShape(0, Integer.MAX_VALUE, Integer.MAX_VALUE,
                Integer.MAX_VALUE, Integer.MAX_VALUE, true));
        C.due("lowest numbers", Check.ARGUMENT, () -> x.addShape(0, Integer.MIN_VALUE, Integer.MIN_VALUE,
                Integer.MIN_VALUE, Integer.MIN_VALUE, true));
        C.due("a throw changes nothing", 0, () -> x.operations());
        C.due("the last corner", 0, () -> x.addShape(0, 16, 8, 8, 8, false));
        C.due("the last cell", 1, () -> x.addShape(1, 23, 15, 1, 1, true));
        C.due("numbers are the same for all", 2, () -> x.addShape(2, 0, 0, 1, 1, true));
        C.due("column", 16, () -> x.columnOf(0, 0));
        C.due("row", 8, () -> x.rowOf(0, 0));
        C.due("one operation each", 3, () -> x.operations());
        C.due("it writes that it is there, place and key", 3, () -> x.takeBack(0));
        for (int i = 3; i < 12; i++) {
            int number = i;
            C.due("number", number, () -> x.addShape(0, 0, 0, 1, 1, false));
        }
        C.due("a shape that is taken back counts among the 12", Check.STATE, () -> x.addShape(0, 0, 0, 1, 1, false));
        C.due("argument ahead of state", Check.ARGUMENT, () -> x.addShape(0, 0, 0, 1, 9, false));
    }

    private static void addShapeKeys() {
        Plugboard x = new Plugboard();
        x.addShape(0, 0, 0, 1, 1, false);
        C.due("first key", 0.0f, () -> x.keyOf(0, 0));
        x.addShape(0, 0, 0, 1, 1, false);
        C.due("second key", 1.0f, () -> x.keyOf(0, 1));
        x.addShape(1, 0, 0, 1, 1, false);
        C.due("first key of another user", 0.0f, () -> x.keyOf(1, 2));
        x.remove(0, 1);
        x.addShape(0, 0, 0, 1, 1, false);
        C.due("keys that are not seen do not count", 1.0f, () -> x.keyOf(0, 3));
        x.lower(0, 3);
        x.lower(0, 0);
        x.addShape(0, 0, 0, 1, 1, false);
        C.due("below 0", 0.0f, () -> x.keyOf(0, 4));
        C.due("greatest is negative", -2.0f, () -> x.keyOf(0, 0));
    }

    private static void move() {
        Plugboard x = new Plugboard();
        x.addShape(0, 2, 2, 4, 3, false);
        C.due("no user", Check.ARGUMENT, () -> x.move(3, 0, 0, 0));
        C.due("beyond the columns", Check.ARGUMENT, () -> x.move(0, 0, 21, 0));
        C.due("beyond the rows", Check.ARGUMENT, () -> x.move(0, 0, 0, 14));
        C.due("ahead of the columns", Check.ARGUMENT, () -> x.move(0, 0, -1, 0));
        C.due("ahead of the rows", Check.ARGUMENT, () -> x.move(0, 0, 0, -1));
        C.due("greatest numbers", Check.ARGUMENT, () -> x.move(0, 0, Integer.MAX_VALUE, Integer.MIN_VALUE));
        C.due("no such shape", Check.ELEMENT, () -> x.move(0, 1, 0, 0));
        C.due("no shape -1", Check.ELEMENT, () -> x.move(0, -1, 0, 0));
        C.due("far number", Check.ELEMENT, () -> x.move(0, Integer.MAX_VALUE, 0, 0));
        C.due("not seen", Check.ELEMENT, () -> x.move(1, 0, 0, 0));
        C.due("not seen and beyond the board", Check.ARGUMENT, () -> x.move(1, 0, 21, 0));
        C.due("nothing changed", 1, () -> x.operations());
        C.due("last place", 1, () -> x.move(0, 0, 20, 13));
        C.due("column", 20, () -> x.columnOf(0, 0));
        C.due("row", 13, () -> x.rowOf(0, 0));
        C.due("the same place again", 1, () -> x.move(0, 0, 20, 13));
        C.due("also an operation", 3, () -> x.operations());
        x.addShape(0, 20, 13, 1, 1, false);
        C.due("what is no frame carries nothing", 1, () -> x.move(0, 0, 0, 0));
        C.due("column of the other one", 20, () -> x.columnOf(0, 1));
        x.sync(0, 1);
        x.lock(1, 0);
        C.due("locked by the other one, not here", 1, () -> x.move(0, 0, 1, 1));
        x.sync(0, 1);
        C.due("locked", Check.UNSUPPORTED, () -> x.move(0, 0, 0, 0));
        C.due("argument ahead of locked", Check.ARGUMENT, () -> x.move(0, 0, 22, 0));
        C.due("locked by oneself", 1, () -> x.move(1, 0, 0, 0));
    }

    private static void moveFrame() {
        Plugboard x = new Plugboard();
        x.addShape(0, 1, 1, 8, 6, true);
        x.addShape(0, 1, 1, 8, 6, true);
        x.addShape(0, 8, 6, 1, 1, false);
        x.addShape(0, 8, 6, 2, 1, false);
        x.addShape(0, 0, 1, 2, 2, false);
        x.addShape(0, 3, 3, 2, 2, true);
        x.addShape(0, 3, 3, 1, 1, false);
        x.addShape(0, 5, 5, 1, 1, false);
        x.sync(0, 1);
        x.remove(0, 7);
        x.lock(1, 6);
        x.lock(0, 2);
        x.sync(0, 1);
        // Carried: itself, the frame of the same size, the corner (locked by oneself) and the small frame.
        C.due("moved shapes", 4, () -> x.move(0, 0, 4, 2));
        int[] columns = {4, 4, 11, 8, 0, 6, 3};
        int[] rows = {2, 2, 7, 6, 1, 4, 3};
        for (int i = 0; i < 7; i++) {
            int shape = i;
            C.due("column of " + i, columns[i], () -> x.columnOf(0, shape));
            C.due("row of " + i, rows[i], () -> x.rowOf(0, shape));
        }
        C.due("it was one step of 4 fields", 4, () -> x.takeBack(0));
        C.due("back", 8, () -> x.columnOf(0, 2));
        C.due("back", 1, () -> x.columnOf(0, 0));
        C.due("a place that is not seen is not moved", 0, () -> x.takeBack(0) - 1);
        C.due("unlocked again", -1, () -> x.lockedBy(0, 2));
        x.takeBack(0);
        C.due("the removed one came back where it was", 5, () -> x.columnOf(0, 7));
        C.due("up and to the left", 5, () -> x.move(0, 1, 0, 0));
        C.due("column", 2, () -> x.columnOf(0, 5));
        C.due("row", 5, () -> x.rowOf(0, 2));
    }

    private static void moveNumberedOnly() {
        Plugboard x = new Plugboard();
        x.addShape(0, 0, 0, 8, 8, true);
        x.addShape(1, 3, 3, 1, 1, false);
        C.due("what the user does not know is not carried", 1, () -> x.move(0, 0, 16, 8));
        x.sync(0, 1);
        C.due("still at its place", 3, () -> x.columnOf(0, 1));
    }

    private static void raiseAndLower() {
        Plugboard x = new Plugboard();
        x.addShape(0, 0, 0, 1, 1, false);
        x.addShape(0, 0, 0, 1, 1, false);
        x.addShape(0, 0, 0, 1, 1, false);
        C.due("raise", 2, () -> x.raise(0, 0));
        C.due("key", 3.0f, () -> x.keyOf(0, 0));
        C.due("rank of the next", 0, () -> x.rankOf(0, 1));
        C.due("raise the top", 2, () -> x.raise(0, 0));
        C.due("its own key counts", 4.0f, () -> x.keyOf(0, 0));
        C.due("lower", 0, () -> x.lower(0, 2));
        C.due("key", 0.0f, () -> x.keyOf(0, 2));
        C.due("lower the lowest", 0, () -> x.lower(0, 2));
        C.due("key", -1.0f, () -> x.keyOf(0, 2));
        x.remove(0, 0);
        C.due("not seen", Check.ELEMENT, () -> x.raise(0, 0));
        C.due("not seen", Check.ELEMENT, () -> x.lower(0, 0));
        C.due("raise above those that are seen", 1, () -> x.raise(0, 2));
        C.due("key", 2.0f, () -> x.keyOf(0, 2));
        x.remove(0, 1);
        C.due("lower the only one", 0, () -> x.lower(0, 2));
        C.due("key", 1.0f, () -> x.keyOf(0, 2));
        C.due("no user", Check.ARGUMENT, () -> x.raise(-1, 2));
        C.due("no user", Check.ARGUMENT, () -> x.lower(-1, 2));
        C.due("no shape", Check.ELEMENT, () -> x.raise(0, 3));
        C.due("no shape", Check.ELEMENT, () -> x.lower(0, 12));
    }

    private static void putAbove() {
        Plugboard x = new Plugboard();
        for (int i = 0; i < 4; i++) {
            x.addShape(0, 0, 0, 1, 1, false);
        }
        C.due("between", 1, () -> x.putAbove(0, 3, 0));
        C.due("key", 0.5f, () -> x.keyOf(0, 3));
        C.due("its own key counts as the next", 1, () -> x.putAbove(0, 3, 0));
        C.due("key", 0.25f, () -> x.keyOf(0, 3));
        C.due("above the top", 3, () -> x.putAbove(0, 0, 2));
        C.due("key", 3.0f, () -> x.keyOf(0, 0));
        x.remove(0, 1);
        C.due("what is not seen does not count", 1, () -> x.putAbove(0, 0, 3));
        C.due("key", 1.125f, () -> x.keyOf(0, 0));
        C.due("cut", 9, () -> x.keyCut(0, 0));

        Plugboard y = new Plugboard();
        y.addShape(0, 0, 0, 1, 1, false);
        y.addShape(1, 0, 0, 1, 1, false);
        y.sync(0, 1);
        C.due("equal keys are not greater", 1, () -> y.putAbove(0, 0, 1));
        C.due("key", 1.0f, () -> y.keyOf(0, 0));
    }

    private static void putAboveRefused() {
        Plugboard x = new Plugboard();
        x.addShape(0, 0, 0, 1, 1, false);
        x.addShape(0, 0, 0, 1, 1, false);
        x.addShape(0, 0, 0, 1, 1, false);
        x.lower(0, 0);
        x.raise(0, 0);
        // Keys 3, 1 and 2: between 1 and 2 a float has 23 bits.
        for (int i = 0; i < 22; i++) {
            C.due("in between", 1, () -> x.putAbove(0, 2, 1));
        }
        C.due("in between", 1, () -> x.putAbove(0, 2, 1));
        C.due("the next float above 1", 0x3f800001, () -> x.keyBits(0, 2));
        C.due("no float between", Check.UNSUPPORTED, () -> x.putAbove(0, 2, 1));
        C.due("no float between", Check.UNSUPPORTED, () -> x.putAbove(0, 0, 1));
        C.due("nothing changed", 28, () -> x.operations());
        C.due("above the other", 2, () -> x.putAbove(0, 1, 2) + 1);
        C.due("same shapes", Check.ARGUMENT, () -> x.putAbove(0, 1, 1));
        C.due("same shapes that do not exist", Check.ARGUMENT, () -> x.putAbove(0, 7, 7));
        C.due("no user", Check.ARGUMENT, () -> x.putAbove(3, 0, 1));
        C.due("no shape", Check.ELEMENT, () -> x.putAbove(0, 3, 1));
        C.due("no other", Check.ELEMENT, () -> x.putAbove(0, 1, 3));
        C.due("not seen", Check.ELEMENT, () -> x.putAbove(1, 1, 0));
        x.sync(0, 1);
        x.lock(1, 0);
        x.sync(0, 1);
        C.due("locked", Check.UNSUPPORTED, () -> x.putAbove(0, 0, 1));
        C.due("the other one may be locked", true, () -> x.putAbove(0, 1, 0) >= 0);
        x.remove(0, 2);
        C.due("no other ahead of locked", Check.ELEMENT, () -> x.putAbove(0, 0, 2));
    }

    private static void remove() {
        Plugboard x = new Plugboard();
        x.addShape(0, 0, 0, 1, 1, false);
        x.addShape(0, 5, 5, 1, 1, false);
        C.due("no user", Check.ARGUMENT, () -> x.remove(3, 0));
        C.due("no shape", Check.ELEMENT, () -> x.remove(0, 2));
        C.due("not seen", Check.ELEMENT, () -> x.remove(1, 0));
        C.due("remove", 1, () -> x.remove(0, 0));
        C.due("gone", false, () -> x.sees(0, 0));
        C.due("twice", Check.ELEMENT, () -> x.remove(0, 0));
        C.due("last", 0, () -> x.remove(0, 1));
        C.due("numbers are not used again", 2, () -> x.addShape(0, 0, 0, 1, 1, false));
        x.sync(0, 1);
        x.lock(1, 2);
        x.sync(0, 1);
        C.due("locked", Check.UNSUPPORTED, () -> x.remove(0, 2));
        C.due("locked by oneself", 0, () -> x.remove(1, 2));
    }

    private static void lockAndUnlock() {
        Plugboard x = new Plugboard();
        for (int i = 0; i < 3; i++) {
            x.addShape(0, 0, 0, 1, 1, false);
        }
        x.sync(0, 1);
        C.due("nobody", -1, () -> x.lockedBy(0, 0));
        C.due("lock", 1, () -> x.lock(0, 0));
        C.due("lock another one", 2, () -> x.lock(0, 1));
        C.due("lock again", 2, () -> x.lock(0, 0));
        C.due("user 0", 0, () -> x.lockedBy(0, 0));
        C.due("not there yet", -1, () -> x.lockedBy(1, 0));
        x.remove(0, 1);
        C.due("only those that are seen", 2, () -> x.lock(0, 2));
        x.sync(0, 1);
        C.due("locked by another", Check.UNSUPPORTED, () -> x.lock(1, 0));
        C.due("raise", Check.UNSUPPORTED, () -> x.raise(1, 0));
        C.due("lower", Check.UNSUPPORTED, () -> x.lower(1, 0));
        C.due("whoever has", 0, () -> x.unlock(1, 0));
        C.due("nobody has", Check.UNSUPPORTED, () -> x.unlock(1, 0));
        C.due("user 1 counts its own", 1, () -> x.lock(1, 0));
        C.due("user 1", 1, () -> x.lockedBy(1, 0));
        C.due("one's own", 1, () -> x.unlock(1, 0));
        C.due("nobody any more", -1, () -> x.lockedBy(1, 0));
        C.due("of another number", 0, () -> x.unlock(1, 2));
        C.due("nobody any more", -1, () -> x.lockedBy(1, 2));
        C.due("nobody any more", Check.UNSUPPORTED, () -> x.unlock(1, 2));
        C.due("no user", Check.ARGUMENT, () -> x.lock(3, 0));
        C.due("no user", Check.ARGUMENT, () -> x.unlock(3, 0));
        C.due("no shape", Check.ELEMENT, () -> x.lock(0, 3));
        C.due("no shape", Check.ELEMENT, () -> x.unlock(0, -1));
        C.due("not seen", Check.ELEMENT, () -> x.lock(2, 0));
        C.due("not seen", Check.ELEMENT, () -> x.unlock(2, 0));
    }

    private static void orderOfExceptions() {
        Plugboard x = new Plugboard();
        x.addShape(0, 0, 0, 1, 1, false);
        x.addShape(0, 0, 0, 1, 1, false);
        x.lock(0, 0);
        x.sync(0, 1);
        Boards.with(x, 250);
        C.due("add", Check.STATE, () -> x.addShape(0, 0, 0, 1, 1, false));
        C.due("add, argument first", Check.ARGUMENT, () -> x.addShape(0, 24, 0, 1, 1, false));
        C.due("number not used", Check.ELEMENT, () -> x.columnOf(0, 2));
        C.due("move", Check.STATE, () -> x.move(0, 0, 1, 1));
        C.due("move, locked first", Check.UNSUPPORTED, () -> x.move(1, 0, 1, 1));
        C.due("move, element first", Check.ELEMENT, () -> x.move(2, 0, 1, 1));
        C.due("move, argument first", Check.ARGUMENT, () -> x.move(2, 0, 24, 1));
        C.due("raise", Check.STATE, () -> x.raise(0, 0));
        C.due("raise, locked first", Check.UNSUPPORTED, () -> x.raise(1, 0));
        C.due("raise, element first", Check.ELEMENT, () -> x.raise(2, 0));
        C.due("lower", Check.STATE, () -> x.lower(0, 0));
        C.due("lower, locked first", Check.UNSUPPORTED, () -> x.lower(1, 0));
        C.due("lower, element first", Check.ELEMENT, () -> x.lower(2, 0));
        C.due("putAbove", Check.STATE, () -> x.putAbove(0, 0, 1));
        C.due("putAbove, locked first", Check.UNSUPPORTED, () -> x.putAbove(1, 0, 1));
        C.due("putAbove, element first", Check.ELEMENT, () -> x.putAbove(2, 0, 1));
        C.due("putAbove, argument first", Check.ARGUMENT, () -> x.putAbove(2, 0, 0));
        C.due("remove", Check.STATE, () -> x.remove(0, 0));
        C.due("remove, locked first", Check.UNSUPPORTED, () -> x.remove(1, 0));
        C.due("remove, element first", Check.ELEMENT, () -> x.remove(2, 0));
        C.due("lock", Check.STATE, () -> x.lock(0, 0));
        C.due("lock, locked first", Check.UNSUPPORTED, () -> x.lock(1, 0));
        C.due("lock, element first", Check.ELEMENT, () -> x.lock(2, 0));
        C.due("unlock", Check.STATE, () -> x.unlock(0, 0));
        C.due("unlock, not locked first", Check.UNSUPPORTED, () -> x.unlock(0, 1));
        C.due("unlock, element first", Check.ELEMENT, () -> x.unlock(2, 0));
        C.due("show", Check.STATE, () -> x.show(0, true));
        C.due("show, argument first", Check.ARGUMENT, () -> x.show(3, true));
        C.due("nothing changed", 250, () -> x.operations());
        C.due("still hidden", Check.UNSUPPORTED, () -> x.winner(0));
        C.due("still locked", 0, () -> x.lockedBy(0, 0));
        C.due("still alike", true, () -> x.areAlike(0, 1));
    }
}
