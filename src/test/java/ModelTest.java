import java.util.Random;

/** All promises: long runs of calls with arguments right and wrong, compared with the model call by call. */
public final class ModelTest {
    private static final Check C = new Check("ModelTest");
    private static final int CALLS = 512;

    private final Random random;
    private final int run;
    private final boolean isCrowded;
    private final Plugboard board = new Plugboard();
    private final Model model = new Model();
    private int calls;

    private ModelTest(int run) {
        this.run = run;
        this.random = new Random(run);
        this.isCrowded = run % 3 == 0;
    }

    public static void main(String[] args) {
        for (int run = 0; run < 150; run++) {
            ModelTest test = new ModelTest(run);
            if (run % 15 == 7) {
                test.startAtZero();
            } else {
                test.start();
            }
            // One turn makes at most two calls.
            while (test.calls + 2 <= CALLS) {
                test.call();
            }
        }
        C.end();
    }

    private void start() {
        for (int i = 0; i < (isCrowded ? 12 : 4); i++) {
            int user = random.nextInt(3);
            int width = 1 + random.nextInt(isCrowded ? 8 : 4);
            int height = 1 + random.nextInt(isCrowded ? 8 : 4);
            int column = random.nextInt(25 - width);
            int row = random.nextInt(17 - height);
            boolean isFrame = random.nextInt(3) == 0;
            both("addShape", () -> board.addShape(user, column, row, width, height, isFrame),
                    () -> model.addShape(user, column, row, width, height, isFrame));
        }
        both("sync", () -> board.sync(0, 1), () -> model.sync(0, 1));
        both("sync", () -> board.sync(1, 2), () -> model.sync(1, 2));
    }

    /** Some 90 operations are left when the keys are as close to 0 as keys can be. */
    private void startAtZero() {
        for (int i = 0; i < 3; i++) {
            both("addShape", () -> board.addShape(0, 0, 0, 1, 1, false), () -> model.addShape(0, 0, 0, 1, 1, false));
        }
        both("lower", () -> board.lower(0, 1), () -> model.lower(0, 1));
        both("putAbove", () -> board.putAbove(0, 0, 2), () -> model.putAbove(0, 0, 2));
        for (NegativeZero.Put put : NegativeZero.puts()) {
            both("putAbove", () -> board.putAbove(0, put.shape(), put.other()),
                    () -> model.putAbove(0, put.shape(), put.other()));
        }
        both("sync", () -> board.sync(0, 1), () -> model.sync(0, 1));
        both("sync", () -> board.sync(1, 2), () -> model.sync(1, 2));
    }

    private void both(String what, Check.Call real, Check.Call due) {
        calls++;
        C.same("run " + run + ", " + what, Check.answerOf(due), Check.answerOf(real));
    }

    private boolean isRarely(int ofMany) {
        return random.nextInt(ofMany) == 0;
    }

    private int wild() {
        int[] all = {-1, -2, 3, 5, 8, 12, 13, 16, 24, 250, 1000, Integer.MAX_VALUE, Integer.MIN_VALUE};
        return all[random.nextInt(all.length)];
    }

    private int user() {
        return isRarely(60) ? wild() : random.nextInt(3);
    }

    private int shape() {
        return isRarely(60) ? wild() : random.nextInt(isCrowded ? 12 : 6);
    }

    private int number(int below) {
        return isRarely(60) ? wild() : random.nextInt(below);
    }

    private char side() {
        return isRarely(40) ? (char) random.nextInt(256) : "tblr".charAt(random.nextInt(4));
    }

    private void call() {
        int kind = random.nextInt(60);
        if (kind < 26) {
            step(kind);
        } else if (kind < 32) {
            spread(kind);
        } else if (kind < 48) {
            ask(kind);
        } else {
            askShape(kind);
        }
    }

    private void step(int kind) {
        int u = user();
        int s = shape();
        int o = shape();
        int c = number(20);
        int r = number(14);
        boolean b = random.nextBoolean();
        switch (kind) {
            case 0, 1 -> {
                int w = 1 + number(6);
                int h = 1 + number(6);
                both("addShape", () -> board.addShape(u, c, r, w, h, b), () -> model.addShape(u, c, r, w, h, b));
            }
            case 2, 3, 4, 5 -> {
                // The document does not say what comes first if there is no shape and the place is not on the board.
                int x = model.hasShape(s) ? c : 0;
                int y = model.hasShape(s) ? r : 0;
                both("move " + u + " " + s + " " + x + " " + y, () -> board.move(u, s, x, y),
                        () -> model.move(u, s, x, y));
            }
            case 6 -> both("raise", () -> board.raise(u, s), () -> model.raise(u, s));
            case 7 -> both("lower", () -> board.lower(u, s), () -> model.lower(u, s));
            case 8, 9, 10, 11 -> {
                if (!model.isPutUnclear(u, o)) {
                    both("putAbove", () -> board.putAbove(u, s, o), () -> model.putAbove(u, s, o));
                }
            }
            case 12 -> both("remove", () -> board.remove(u, s), () -> model.remove(u, s));
            case 13 -> both("lock", () -> board.lock(u, s), () -> model.lock(u, s));
            case 14 -> both("unlock", () -> board.unlock(u, s), () -> model.unlock(u, s));
            case 15, 16 -> {
                char a = side();
                char z = side();
                both("connect", () -> board.connect(u, s, a, o, z), () -> model.connect(u, s, a, o, z));
            }
            case 17 -> {
                int k = number(isCrowded ? 8 : 40);
                both("disconnect", () -> board.disconnect(u, k), () -> model.disconnect(u, k));
            }
            case 18, 19 -> {
                int n = number(4);
                both("vote", () -> board.vote(u, s, n), () -> model.vote(u, s, n));
            }
            case 20 -> both("show", () -> board.show(u, b), () -> model.show(u, b));
            default -> both("takeBack", () -> board.takeBack(u), () -> model.takeBack(u));
        }
    }

    private void spread(int kind) {
        int u = user();
        int o = user();
        int p = number(Math.max(1, model.operations() + 1));
        switch (kind) {
            case 26 -> both("sync", () -> board.sync(u, o), () -> model.sync(u, o));
            case 27 -> both("knows", () -> board.knows(u, p), () -> model.knows(u, p));
            default -> both("deliver", () -> board.deliver(u, p), () -> model.deliver(u, p));
        }
    }

    private void ask(int kind) {
        int u = user();
        int o = user();
        int k = number(8);
        int p = number(Math.max(1, model.operations() + 1));
        switch (kind) {
            case 32 -> both("operations", () -> board.operations(), () -> model.operations());
            case 33 -> both("userOf", () -> board.userOf(p), () -> model.userOf(p));
            case 34 -> both("clockOf", () -> board.clockOf(p), () -> model.clockOf(p));
            case 35 -> both("shapes", () -> board.shapes(u), () -> model.shapes(u));
            case 36 -> both("connectors", () -> board.connectors(u), () -> model.connectors(u));
            case 37 -> both("bends", () -> board.bends(u, k), () -> model.bends(u, k));
            case 38 -> both("bendsByRounds", () -> board.bendsByRounds(u, k), () -> model.bends(u, k));
            case 39 -> both("routeLength", () -> board.routeLength(u, k), () -> model.routeLength(u, k));
            case 40 -> both("winner", () -> board.winner(u), () -> model.winner(u));
            case 41 -> both("outcome", () -> board.outcome(u), () -> model.outcome(u));
            case 42 -> both("outcomeAnew", () -> board.outcomeAnew(u), () -> model.outcome(u));
            case 43 -> both("outcomes", () -> board.outcomes(u, k), () -> model.outcomes(u, k));
            case 44 -> both("areAlike", () -> board.areAlike(u, o), () -> model.areAlike(u, o));
            case 45 -> both("frameShare", () -> board.frameShare(u), () -> model.frameShare(u));
            case 46 -> both("meanRoute", () -> board.meanRoute(u), () -> model.meanRoute(u));
            default -> both("area", () -> board.area(u), () -> model.area(u));
        }
    }

    private void askShape(int kind) {
        int u = user();
        int s = shape();
        int c = number(24);
        int r = number(16);
        switch (kind) {
            case 48 -> both("sees", () -> board.sees(u, s), () -> model.sees(u, s));
            case 49 -> both("columnOf", () -> board.columnOf(u, s), () -> model.columnOf(u, s));
            case 50 -> both("rowOf", () -> board.rowOf(u, s), () -> model.rowOf(u, s));
            case 51 -> both("rankOf", () -> board.rankOf(u, s), () -> model.rankOf(u, s));
            case 52 -> both("shapeAt", () -> board.shapeAt(u, s), () -> model.shapeAt(u, s));
            case 53 -> both("keyOf", () -> board.keyOf(u, s), () -> model.keyOf(u, s));
            case 54 -> both("keyBits", () -> board.keyBits(u, s), () -> model.keyBits(u, s));
            case 55 -> both("keyCut", () -> board.keyCut(u, s), () -> model.keyCut(u, s));
            case 56 -> both("topAt", () -> board.topAt(u, c, r), () -> model.topAt(u, c, r));
            case 57 -> both("lockedBy", () -> board.lockedBy(u, s), () -> model.lockedBy(u, s));
            case 58 -> both("inside", () -> board.inside(u, s), () -> model.inside(u, s));
            default -> {
                both("ownVotes", () -> board.ownVotes(u, s), () -> model.ownVotes(u, s));
                both("votesFor", () -> board.votesFor(u, s), () -> model.votesFor(u, s));
            }
        }
    }
}
