/** Promises 21 to 32, 44 and 46: what a user sees. */
public final class BoardTest {
    private static final Check C = new Check("BoardTest");

    public static void main(String[] args) {
        shapesAndSees();
        places();
        ranks();
        keys();
        smallestKeys();
        negativeZero();
        topAt();
        inside();
        shareAndArea();
        C.end();
    }

    private static void shapesAndSees() {
        Plugboard x = new Plugboard();
        x.addShape(0, 0, 0, 1, 1, false);
        x.addShape(0, 0, 0, 1, 1, true);
        C.due("shapes", 2, () -> x.shapes(0));
        C.due("shapes of another user", 0, () -> x.shapes(1));
        C.due("no user", Check.ARGUMENT, () -> x.shapes(3));
        C.due("sees", true, () -> x.sees(0, 1));
        C.due("does not see", false, () -> x.sees(1, 1));
        int[] none = {2, -1, 12, 100, Integer.MAX_VALUE, Integer.MIN_VALUE};
        for (int number : none) {
            C.due("no such shape", false, () -> x.sees(0, number));
        }
        C.due("no user", Check.ARGUMENT, () -> x.sees(-1, 0));
        x.remove(0, 0);
        C.due("removed", false, () -> x.sees(0, 0));
        C.due("shapes", 1, () -> x.shapes(0));
    }

    private static void places() {
        Plugboard x = new Plugboard();
        x.addShape(0, 23, 15, 1, 1, false);
        x.addShape(0, 0, 15, 1, 1, false);
        C.due("column", 23, () -> x.columnOf(0, 0));
        C.due("row", 15, () -> x.rowOf(0, 0));
        C.due("column", 0, () -> x.columnOf(0, 1));
        C.due("row", 15, () -> x.rowOf(0, 1));
        for (int i = 0; i < 3; i++) {
            int shape = i == 0 ? -1 : i == 1 ? 2 : Integer.MAX_VALUE;
            C.due("columnOf", Check.ELEMENT, () -> x.columnOf(0, shape));
            C.due("rowOf", Check.ELEMENT, () -> x.rowOf(0, shape));
            C.due("rankOf", Check.ELEMENT, () -> x.rankOf(0, shape));
            C.due("keyOf", Check.ELEMENT, () -> x.keyOf(0, shape));
            C.due("keyBits", Check.ELEMENT, () -> x.keyBits(0, shape));
            C.due("keyCut", Check.ELEMENT, () -> x.keyCut(0, shape));
            C.due("lockedBy", Check.ELEMENT, () -> x.lockedBy(0, shape));
            C.due("inside", Check.ELEMENT, () -> x.inside(0, shape));
        }
        for (int i = 0; i < 2; i++) {
            int user = i == 0 ? -1 : 3;
            C.due("columnOf", Check.ARGUMENT, () -> x.columnOf(user, 9));
            C.due("rowOf", Check.ARGUMENT, () -> x.rowOf(user, 9));
            C.due("rankOf", Check.ARGUMENT, () -> x.rankOf(user, 9));
            C.due("keyOf", Check.ARGUMENT, () -> x.keyOf(user, 9));
            C.due("keyBits", Check.ARGUMENT, () -> x.keyBits(user, 9));
            C.due("keyCut", Check.ARGUMENT, () -> x.keyCut(user, 9));
            C.due("lockedBy", Check.ARGUMENT, () -> x.lockedBy(user, 9));
            C.due("inside", Check.ARGUMENT, () -> x.inside(user, 9));
        }
        C.due("columnOf", Check.ELEMENT, () -> x.columnOf(1, 0));
        C.due("rowOf", Check.ELEMENT, () -> x.rowOf(1, 0));
        C.due("rankOf", Check.ELEMENT, () -> x.rankOf(1, 0));
        C.due("keyOf", Check.ELEMENT, () -> x.keyOf(1, 0));
        C.due("keyBits", Check.ELEMENT, () -> x.keyBits(1, 0));
        C.due("keyCut", Check.ELEMENT, () -> x.keyCut(1, 0));
        C.due("lockedBy", Check.ELEMENT, () -> x.lockedBy(1, 0));
        C.due("inside", Check.ELEMENT, () -> x.inside(1, 0));
    }

    private static void ranks() {
        Plugboard x = new Plugboard();
        x.addShape(2, 0, 0, 1, 1, false);
        x.addShape(1, 0, 0, 1, 1, false);
        x.addShape(0, 0, 0, 1, 1, false);
        x.addShape(0, 0, 0, 1, 1, false);
        x.sync(0, 1);
        x.sync(0, 2);
        x.lower(0, 3);
        // Keys 0, 0, 0 and -1: equal ones stand in the order of their numbers.
        int[] order = {3, 0, 1, 2};
        for (int i = 0; i < 4; i++) {
            int rank = i;
            C.due("shapeAt", order[rank], () -> x.shapeAt(0, rank));
            C.due("rankOf", rank, () -> x.rankOf(0, order[rank]));
        }
        C.due("no rank", Check.BOUNDS, () -> x.shapeAt(0, 4));
        C.due("no rank", Check.BOUNDS, () -> x.shapeAt(0, -1));
        C.due("no rank", Check.BOUNDS, () -> x.shapeAt(0, Integer.MAX_VALUE));
        C.due("no user ahead of no rank", Check.ARGUMENT, () -> x.shapeAt(3, 4));
        x.remove(0, 0);
        C.due("those that are seen", 1, () -> x.shapeAt(0, 1));
        C.due("those that are seen", 2, () -> x.rankOf(0, 2));
        C.due("no rank", Check.BOUNDS, () -> x.shapeAt(0, 3));
    }

    private static void keys() {
        Plugboard x = new Plugboard();
        for (int i = 0; i < 3; i++) {
            x.addShape(0, 0, 0, 1, 1, false);
        }
        for (int i = 0; i < 50; i++) {
            if (i % 7 == 3) {
                x.lower(0, i % 3);
            } else if (i % 11 == 5) {
                x.raise(0, i % 3);
            } else {
                x.putAbove(0, i % 3, (i + 1 + i % 2) % 3);
            }
            for (int s = 0; s < 3; s++) {
                int shape = s;
                float key = x.keyOf(0, shape);
                C.due("bits of " + key, Float.floatToIntBits(key), () -> x.keyBits(0, shape));
                C.due("cut of " + key, (int) (key * 8.0f), () -> x.keyCut(0, shape));
            }
        }
        Plugboard y = new Plugboard();
        y.addShape(0, 0, 0, 1, 1, false);
        y.addShape(0, 0, 0, 1, 1, false);
        y.lower(0, 0);
        y.lower(0, 1);
        y.putAbove(0, 1, 0);
        C.due("key", 0.0f, () -> y.keyOf(0, 1));
        y.putAbove(0, 1, 0);
        y.putAbove(0, 1, 0);
        y.putAbove(0, 1, 0);
        y.putAbove(0, 1, 0);
        C.due("key", -0.9375f, () -> y.keyOf(0, 1));
        C.due("cut towards 0", -7, () -> y.keyCut(0, 1));
    }

    private static void smallestKeys() {
        Plugboard x = new Plugboard();
        for (int i = 0; i < 3; i++) {
            x.addShape(0, 0, 0, 1, 1, false);
        }
        float key = 1.0f;
        int step = 0;
        // Shape 0 has the key 0.0f; the other two are put above it by turns.
        while (key > Float.MIN_VALUE && step < 200) {
            int shape = 2 - step % 2;
            x.putAbove(0, shape, 0);
            key = key / 2.0f;
            C.due("half", key, () -> x.keyOf(0, shape));
            C.due("bits of half", Float.floatToIntBits(key), () -> x.keyBits(0, shape));
            step++;
        }
        C.same("halves down to the smallest float", 149, step);
        C.due("no float between", Check.UNSUPPORTED, () -> x.putAbove(0, 2, 0));
        C.due("no float between", Check.UNSUPPORTED, () -> x.putAbove(0, 1, 0));
    }

    private static void negativeZero() {
        Plugboard x = new Plugboard();
        NegativeZero.start(x);
        int zero = -1;
        for (NegativeZero.Put put : NegativeZero.puts()) {
            x.putAbove(0, put.shape(), put.other());
            C.due("bits", Float.floatToIntBits(put.key()), () -> x.keyBits(0, put.shape()));
            zero = put.shape();
        }
        int shape = zero;
        C.due("bits of -0.0f", 0x80000000, () -> x.keyBits(0, shape));
        C.due("cut of -0.0f", 0, () -> x.keyCut(0, shape));
    }

    private static void topAt() {
        Plugboard x = new Plugboard();
        x.addShape(0, 0, 0, 4, 4, false);
        x.addShape(0, 2, 2, 4, 4, false);
        x.addShape(0, 0, 0, 8, 8, true);
        x.addShape(1, 3, 3, 1, 1, false);
        C.due("no user", Check.ARGUMENT, () -> x.topAt(3, 0, 0));
        C.due("no column", Check.ARGUMENT, () -> x.topAt(0, -1, 0));
        C.due("no column", Check.ARGUMENT, () -> x.topAt(0, 24, 0));
        C.due("no row", Check.ARGUMENT, () -> x.topAt(0, 0, -1));
        C.due("no row", Check.ARGUMENT, () -> x.topAt(0, 0, 16));
        C.due("frames do not count", Check.ELEMENT, () -> x.topAt(0, 7, 7));
        C.due("nothing at all", Check.ELEMENT, () -> x.topAt(0, 23, 15));
        C.due("first cell", 0, () -> x.topAt(0, 0, 0));
        C.due("last cell of the first", 0, () -> x.topAt(0, 3, 1));
        C.due("beside it", Check.ELEMENT, () -> x.topAt(0, 4, 1));
        C.due("below it", Check.ELEMENT, () -> x.topAt(0, 1, 4));
        C.due("both", 1, () -> x.topAt(0, 3, 3));
        C.due("last cell of the second", 1, () -> x.topAt(0, 5, 5));
        x.raise(0, 0);
        C.due("the greatest rank", 0, () -> x.topAt(0, 3, 3));
        x.sync(0, 1);
        C.due("others stay below", 0, () -> x.topAt(0, 3, 3));
        x.remove(0, 0);
        C.due("seen ones", 1, () -> x.topAt(0, 3, 3));
    }

    private static void inside() {
        Plugboard x = new Plugboard();
        x.addShape(0, 2, 2, 4, 4, true);
        x.addShape(0, 2, 2, 4, 4, false);
        x.addShape(0, 5, 5, 1, 1, false);
        x.addShape(0, 5, 5, 2, 1, false);
        x.addShape(0, 1, 2, 2, 1, false);
        x.addShape(0, 2, 1, 1, 2, true);
        x.addShape(0, 5, 5, 1, 2, false);
        C.due("in the frame", 2, () -> x.inside(0, 0));
        C.due("in a shape that is no frame", 2, () -> x.inside(0, 1));
        C.due("one cell", 0, () -> x.inside(0, 2));
        C.due("two cells", 1, () -> x.inside(0, 3));
        C.due("two cells", 1, () -> x.inside(0, 6));
        C.due("none", 0, () -> x.inside(0, 4));
        x.remove(0, 2);
        C.due("seen ones", 1, () -> x.inside(0, 0));
        C.due("seen ones", 0, () -> x.inside(0, 3));
    }

    private static void shareAndArea() {
        Plugboard x = new Plugboard();
        C.due("no shapes", Check.ARITHMETIC, () -> x.frameShare(0));
        C.due("no user", Check.ARGUMENT, () -> x.frameShare(3));
        C.due("no user", Check.ARGUMENT, () -> x.area(3));
        x.addShape(0, 0, 0, 8, 8, true);
        C.due("all", 1.0f, () -> x.frameShare(0));
        x.addShape(0, 0, 0, 2, 3, false);
        x.addShape(0, 0, 0, 1, 1, false);
        C.due("a third", 1.0f / 3.0f, () -> x.frameShare(0));
        C.due("area", 71L, () -> x.area(0));
        C.due("no area", 0L, () -> x.area(1));
        C.due("no shapes", Check.ARITHMETIC, () -> x.frameShare(1));
        x.remove(0, 0);
        C.due("none", 0.0f, () -> x.frameShare(0));
        C.due("area of those that are seen", 7L, () -> x.area(0));
    }
}
