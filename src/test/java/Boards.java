import java.util.ArrayList;
import java.util.List;

/** A board with shapes and connectors of every kind, made by the same calls each time, and all that it answers. */
final class Boards {
    // The shapes, as user 0 sees them.
    static final int FREE = 0;
    static final int LOCKED = 1;
    static final int FRAME = 2;
    static final int OTHER = 3;
    static final int UNKNOWN = 4;
    static final int REMOVED = 5;
    static final int NO_SHAPE = 6;

    // The connectors, as user 0 sees them.
    static final int LINE = 0;
    static final int BLOCKED = 1;
    static final int LOOSE = 2;
    static final int BROKEN = 3;
    static final int FOREIGN = 4;
    static final int NO_CONNECTOR = 5;

    static final int MOST_OPERATIONS = 250;

    private Boards() {
    }

    /** User 0 has given 4 votes, user 1 has locked a shape, and user 2 knows nobody else's operations. */
    static Plugboard mixed() {
        Plugboard x = new Plugboard();
        x.addShape(0, 4, 4, 2, 2, false);
        x.addShape(0, 10, 4, 3, 2, false);
        x.addShape(0, 2, 2, 6, 6, true);
        x.addShape(0, 0, 10, 1, 1, false);
        x.addShape(2, 20, 12, 2, 2, false);
        x.addShape(0, 15, 10, 2, 2, false);
        x.connect(0, FREE, 'r', LOCKED, 'l');
        x.connect(0, OTHER, 'l', LOCKED, 't');
        x.connect(0, FREE, 't', OTHER, 'r');
        x.connect(0, REMOVED, 't', FREE, 'b');
        x.sync(0, 1);
        x.lock(1, LOCKED);
        x.sync(0, 1);
        x.remove(0, REMOVED);
        x.disconnect(0, LOOSE);
        x.vote(0, FREE, 3);
        x.vote(0, OTHER, 1);
        x.connect(1, FREE, 'b', OTHER, 't');
        return x;
    }

    static Plugboard mixedAndShown() {
        Plugboard x = mixed();
        x.show(0, true);
        return x;
    }

    /** Shape 0 has the key 0.0f; shapes 2 and 1 are put above it by turns, so that the key of the last is halved. */
    static Plugboard halved(int times) {
        Plugboard x = new Plugboard();
        for (int i = 0; i < 3; i++) {
            x.addShape(0, 0, 0, 1, 1, false);
        }
        for (int i = 0; i < times; i++) {
            x.putAbove(0, 2 - i % 2, 0);
        }
        return x;
    }

    /** The keys of shapes 0, 2 and 1 are 0.0f, the smallest float above it and the next one. */
    static Plugboard tight() {
        return halved(149);
    }

    /** As many operations as are wanted, the missing ones made by user 2, which nobody else knows. */
    static Plugboard with(Plugboard x, int operations) {
        for (int missing = operations - x.operations(); missing > 0; missing--) {
            x.show(2, false);
        }
        return x;
    }

    static Plugboard full() {
        return with(mixed(), MOST_OPERATIONS);
    }

    static Plugboard fullAndShown() {
        return with(mixedAndShown(), MOST_OPERATIONS);
    }

    /** Some 150 answers, so that a board with 250 operations still keeps to its 512 calls. */
    static List<Object> answers(Plugboard x) {
        List<Object> list = new ArrayList<>();
        list.add(x.operations());
        for (int u = 0; u < 3; u++) {
            int user = u;
            list.add(x.outcome(user));
            list.add(x.connectors(user));
            list.add(x.areAlike(user, (user + 1) % 3));
            list.add(Check.answerOf(() -> x.winner(user)));
            for (int s = 0; s <= NO_SHAPE; s++) {
                int shape = s;
                if (x.sees(user, shape)) {
                    list.add(List.of(user, shape, x.columnOf(user, shape), x.rowOf(user, shape),
                            x.keyBits(user, shape), x.lockedBy(user, shape), x.ownVotes(user, shape)));
                }
            }
        }
        return list;
    }

    /** What steps answer that go on from here, and the board behind them. */
    static List<Object> goOn(Plugboard x) {
        List<Object> list = new ArrayList<>();
        for (int u = 0; u < 3; u++) {
            int user = u;
            list.add(Check.answerOf(() -> x.takeBack(user)));
            list.add(Check.answerOf(() -> x.addShape(user, 0, 0, 1, 1, true)));
            list.add(Check.answerOf(() -> x.connect(user, FREE, 't', OTHER, 'b')));
            list.add(Check.answerOf(() -> x.clockOf(x.operations() - 1)));
        }
        list.add(Check.answerOf(() -> x.sync(0, 1)));
        list.add(Check.answerOf(() -> x.sync(1, 2)));
        list.add(x.outcome(0));
        list.add(x.outcome(2));
        return list;
    }
}
