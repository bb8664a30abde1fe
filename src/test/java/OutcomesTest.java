/** Promises 40 to 43: outcomes and boards that are alike. */
public final class OutcomesTest {
    private static final Check C = new Check("OutcomesTest");

    public static void main(String[] args) {
        outcome();
        anew();
        outcomes();
        areAlike();
        areAlikeOfZeroKeys();
        C.end();
    }

    private static int mix(int sum, int... numbers) {
        long result = sum;
        for (int number : numbers) {
            result = (result * 31 + number + 1) % 1000003;
        }
        return (int) result;
    }

    private static void outcome() {
        Plugboard x = new Plugboard();
        C.due("empty", 0, () -> x.outcome(0));
        x.addShape(0, 0, 0, 1, 1, false);
        C.due("one", mix(0, 0, 0, 0, 0), () -> x.outcome(0));
        x.addShape(0, 23, 15, 1, 1, true);
        C.due("two", mix(0, 0, 0, 0, 0, 1, 23, 15, 1), () -> x.outcome(0));
        x.lower(0, 1);
        C.due("ranks", mix(0, 0, 0, 0, 1, 1, 23, 15, 0), () -> x.outcome(0));
        C.due("of another user", 0, () -> x.outcome(1));
        x.remove(0, 0);
        C.due("seen ones", mix(0, 1, 23, 15, 0), () -> x.outcome(0));
        C.due("no user", Check.ARGUMENT, () -> x.outcome(3));
        C.due("no user", Check.ARGUMENT, () -> x.outcomeAnew(-1));
    }

    private static void anew() {
        Plugboard x = new Plugboard();
        C.due("empty", 0, () -> x.outcomeAnew(0));
        x.addShape(0, 1, 2, 1, 1, false);
        x.addShape(1, 3, 4, 1, 1, false);
        x.move(0, 0, 5, 6);
        x.raise(1, 1);
        C.due("only what is known", mix(0, 0, 5, 6, 0), () -> x.outcomeAnew(0));
        C.due("only what is known", mix(0, 1, 3, 4, 0), () -> x.outcomeAnew(1));
        C.due("nothing is known", 0, () -> x.outcomeAnew(2));
        x.deliver(2, 3);
        x.deliver(2, 2);
        x.deliver(2, 1);
        x.deliver(2, 0);
        C.due("in any order", mix(0, 0, 5, 6, 0, 1, 3, 4, 1), () -> x.outcomeAnew(2));
        C.due("as it is kept", mix(0, 0, 5, 6, 0, 1, 3, 4, 1), () -> x.outcome(2));
        x.takeBack(0);
        C.due("taken back", mix(0, 0, 1, 2, 0), () -> x.outcomeAnew(0));
    }

    private static void outcomes() {
        Plugboard x = new Plugboard();
        for (int m = 0; m <= 4; m++) {
            int many = m;
            C.due("of nothing", 1, () -> x.outcomes(0, many));
        }
        x.addShape(0, 1, 2, 1, 1, false);
        x.addShape(1, 3, 4, 1, 1, false);
        x.sync(0, 1);
        x.move(0, 0, 5, 6);
        x.move(1, 0, 7, 8);
        x.raise(1, 0);
        x.remove(0, 1);
        x.sync(0, 1);
        for (int m = 0; m <= 4; m++) {
            int many = m;
            C.due("the latest one wins", 1, () -> x.outcomes(0, many));
        }
        C.due("too many", Check.ARGUMENT, () -> x.outcomes(0, 5));
        C.due("too few", Check.ARGUMENT, () -> x.outcomes(0, -1));
        C.due("no user", Check.ARGUMENT, () -> x.outcomes(3, 4));
        C.due("nothing changes", 6, () -> x.operations());
        C.due("nothing changes", x.outcome(0), () -> x.outcomeAnew(0));
    }

    private static void areAlike() {
        C.due("no user", Check.ARGUMENT, () -> new Plugboard().areAlike(3, 0));
        C.due("no other user", Check.ARGUMENT, () -> new Plugboard().areAlike(0, -1));
        for (int i = 0; i < 9; i++) {
            Plugboard x = new Plugboard();
            x.addShape(0, 0, 0, 1, 1, false);
            x.addShape(0, 5, 5, 1, 1, false);
            x.connect(0, 0, 'r', 1, 'l');
            C.due("not alike", false, () -> x.areAlike(0, 1));
            C.due("with itself", true, () -> x.areAlike(0, 0));
            x.sync(0, 1);
            C.due("alike", true, () -> x.areAlike(0, 1));
            change(x, i);
            C.due("one field differs, " + i, false, () -> x.areAlike(0, 1));
            C.due("one field differs, " + i, false, () -> x.areAlike(1, 0));
            x.takeBack(0);
            C.due("values count, not what is known, " + i, true, () -> x.areAlike(0, 1));
            C.due("with the empty one", false, () -> x.areAlike(1, 2));
        }
    }

    private static void areAlikeOfZeroKeys() {
        Plugboard x = new Plugboard();
        NegativeZero.start(x);
        for (NegativeZero.Put put : NegativeZero.puts()) {
            x.putAbove(0, put.shape(), put.other());
        }
        int low = x.shapeAt(0, 0);
        int zero = x.shapeAt(0, 1);
        int high = x.shapeAt(0, 2);
        x.sync(0, 1);
        x.sync(0, 2);
        C.due("-0.0f on both boards", true, () -> x.areAlike(0, 1));
        // User 2 lifts the other shapes to 1.0f and 2.0f, so that user 1 finds 0.0f below them, and drops them again.
        x.raise(2, low);
        x.raise(2, high);
        x.sync(1, 2);
        x.raise(1, zero);
        x.lower(1, zero);
        x.takeBack(2);
        x.takeBack(2);
        x.sync(1, 2);
        C.due("0.0f", 0, () -> x.keyBits(1, zero));
        C.due("-0.0f", 0x80000000, () -> x.keyBits(0, zero));
        C.due("the key below", x.keyBits(0, low), () -> x.keyBits(1, low));
        C.due("the key above", x.keyBits(0, high), () -> x.keyBits(1, high));
        C.due("-0.0f is not 0.0f", false, () -> x.areAlike(0, 1));
        C.due("0.0f is not -0.0f", false, () -> x.areAlike(1, 0));
        C.due("0.0f on both boards", true, () -> x.areAlike(1, 2));
        C.due("-0.0f with itself", true, () -> x.areAlike(0, 0));
        C.due("in the order they are equal", x.outcome(0), () -> x.outcome(1));
        x.takeBack(1);
        x.takeBack(1);
        C.due("-0.0f again, from what user 0 wrote", true, () -> x.areAlike(0, 1));
        x.sync(0, 1);
        x.sync(0, 2);
        C.due("all is known", true, () -> x.areAlike(2, 1));
    }

    private static void change(Plugboard x, int what) {
        switch (what) {
            case 0 -> x.move(0, 0, 1, 0);
            case 1 -> x.move(0, 0, 0, 1);
            case 2 -> x.raise(0, 1);
            case 3 -> x.remove(0, 0);
            case 4 -> x.lock(0, 1);
            case 5 -> x.disconnect(0, 0);
            case 6 -> x.vote(0, 1, 1);
            case 7 -> x.show(0, true);
            default -> x.addShape(0, 0, 0, 1, 1, false);
        }
    }
}
