import java.util.function.Supplier;

/** Promises 2 to 16, at their bounds: what each step refuses, in which order, and what it does just within them. */
public final class StepBoundsTest {
    private static final Check C = new Check("StepBoundsTest");
    private static final Refusal R = new Refusal(C);

    public static void main(String[] args) {
        allAtOnce();
        addShapeUsers();
        addShapeSizes();
        addShapeColumns();
        addShapeRows();
        addShapeTwelve();
        addShapeRoom();
        moveUsers();
        movePlaces();
        moveShapes();
        moveLocked();
        moveWhatIsNoFrame();
        moveRoom();
        raise();
        lower();
        putAbove();
        putAboveHalf();
        remove();
        lock();
        unlock();
        connectUsers();
        connectSides();
        connectShapes();
        connectEight();
        connectRoom();
        disconnect();
        voteUsers();
        voteCounts();
        voteShapes();
        voteFive();
        voteShown();
        voteRoom();
        show();
        takeBackUsers();
        takeBackNone();
        takeBackRoom();
        deliver();
        sync();
        C.end();
    }

    // A step that is not refused makes one operation, with the next number, of its user.
    private static void makes(String what, Object due, Supplier<Plugboard> start, int user, Refusal.Call call) {
        Plugboard x = start.get();
        int before = x.operations();
        C.due(what, due, () -> call.on(x));
        C.due(what + ": one operation", before + 1, () -> x.operations());
        C.due(what + ": of its user", user, () -> x.userOf(before));
        C.due(what + ": which the user knows", true, () -> x.knows(user, before));
    }

    // The 250th operation is made, the 251st is not.
    private static void room(String what, Object due, Refusal.Call call) {
        makes(what + " with 249 operations", due, () -> Boards.with(Boards.mixed(), 249), 0, call);
        R.due(what + " with 250 operations", Check.STATE, Boards::full, call);
    }

    // Terms: If several exceptions apply, the one that is listed first is thrown.
    private static void allAtOnce() {
        // A board with 250 operations, 12 shapes and 8 connectors, of which user 1 knows next to nothing.
        Supplier<Plugboard> start = StepBoundsTest::fullOfAll;
        R.due("addShape", Check.ARGUMENT, start, x -> x.addShape(3, 24, 16, 9, 9, false));
        R.due("addShape, a number", Check.ARGUMENT, start, x -> x.addShape(0, 0, 0, 0, 1, false));
        R.due("move", Check.ARGUMENT, start, x -> x.move(1, Boards.REMOVED, 24, 16));
        R.due("putAbove", Check.ARGUMENT, start, x -> x.putAbove(0, Boards.LOCKED, Boards.LOCKED));
        R.due("putAbove, element", Check.ELEMENT, start, x -> x.putAbove(0, Boards.LOCKED, Boards.REMOVED));
        R.due("connect", Check.ARGUMENT, start, x -> x.connect(0, Boards.REMOVED, 'x', 12, 'y'));
        R.due("connect, element", Check.ELEMENT, start, x -> x.connect(0, Boards.FREE, 't', Boards.REMOVED, 'b'));
        R.due("connect, state", Check.STATE, start, x -> x.connect(0, Boards.FREE, 't', Boards.OTHER, 'b'));
        R.due("vote", Check.ARGUMENT, start, x -> x.vote(0, Boards.REMOVED, 4));
        R.due("vote, element", Check.ELEMENT, start, x -> x.vote(0, Boards.REMOVED, 3));
        R.due("vote, shown", Check.UNSUPPORTED, start, x -> x.vote(0, Boards.FRAME, 3));
        R.due("takeBack", Check.ARGUMENT, start, x -> x.takeBack(-1));
        R.due("takeBack, none", Check.ELEMENT, start, x -> x.takeBack(1));
        R.due("deliver", Check.ARGUMENT, start, x -> x.deliver(3, 250));
        R.due("deliver, element", Check.ELEMENT, start, x -> x.deliver(0, 250));
        R.due("deliver, state", Check.STATE, start, x -> x.deliver(0, 0));
    }

    private static Plugboard fullOfAll() {
        Plugboard x = new Plugboard();
        for (int i = 0; i < 12; i++) {
            x.addShape(i == 1 ? 2 : 0, i, i % 8, 1, 1, false);
        }
        x.lock(2, Boards.LOCKED);
        x.sync(0, 2);
        for (int i = 0; i < 8; i++) {
            x.connect(0, Boards.FREE, 't', Boards.OTHER, 'b');
        }
        x.remove(0, Boards.REMOVED);
        x.vote(0, Boards.FREE, 3);
        x.show(0, true);
        return Boards.with(x, 250);
    }

    // Promise 2: Throws `IllegalArgumentException` if there is no such user, or a number is out of range, or the shape
    // would go beyond the board
    private static void addShapeUsers() {
        R.noUser("addShape", Boards::mixed, (x, user) -> x.addShape(user, 0, 0, 1, 1, false));
        for (int user = 0; user < 3; user++) {
            int who = user;
            makes("addShape", 6, Boards::mixed, who, x -> x.addShape(who, 0, 0, 1, 1, false));
        }
    }

    // Terms: its width and its height are from 1 to 8
    private static void addShapeSizes() {
        for (int number : new int[] {0, -1, 9, 24, Integer.MIN_VALUE, Integer.MAX_VALUE}) {
            R.due("width " + number, Check.ARGUMENT, Boards::mixed, x -> x.addShape(0, 0, 0, number, 1, false));
            R.due("height " + number, Check.ARGUMENT, Boards::mixed, x -> x.addShape(0, 0, 0, 1, number, true));
        }
        for (int number = 1; number <= 8; number++) {
            int size = number;
            makes("width " + size, 6, Boards::mixed, 0, x -> x.addShape(0, 0, 0, size, 1, true));
            makes("height " + size, 6, Boards::mixed, 0, x -> x.addShape(0, 0, 0, 1, size, false));
        }
    }

    // Terms: A shape covers a rectangle of cells that does not go beyond the board
    private static void addShapeColumns() {
        for (int number : new int[] {-1, -8, 24, 25, Integer.MIN_VALUE, Integer.MAX_VALUE, Integer.MAX_VALUE - 7}) {
            R.due("column " + number, Check.ARGUMENT, Boards::mixed, x -> x.addShape(0, number, 0, 1, 1, false));
            R.due("column " + number, Check.ARGUMENT, Boards::mixed, x -> x.addShape(0, number, 0, 8, 1, false));
        }
        for (int number = 1; number <= 8; number++) {
            int width = number;
            makes("first column", 6, Boards::mixed, 0, x -> x.addShape(0, 0, 5, width, 1, false));
            makes("last column", 6, Boards::mixed, 0, x -> x.addShape(0, 24 - width, 5, width, 1, false));
            R.due("beyond the last column, width " + width, Check.ARGUMENT, Boards::mixed,
                    x -> x.addShape(0, 25 - width, 5, width, 1, false));
        }
    }

    private static void addShapeRows() {
        for (int number : new int[] {-1, -8, 16, 17, Integer.MIN_VALUE, Integer.MAX_VALUE, Integer.MAX_VALUE - 7}) {
            R.due("row " + number, Check.ARGUMENT, Boards::mixed, x -> x.addShape(0, 0, number, 1, 1, false));
            R.due("row " + number, Check.ARGUMENT, Boards::mixed, x -> x.addShape(0, 0, number, 1, 8, false));
        }
        for (int number = 1; number <= 8; number++) {
            int height = number;
            makes("first row", 6, Boards::mixed, 0, x -> x.addShape(0, 5, 0, 1, height, false));
            makes("last row", 6, Boards::mixed, 0, x -> x.addShape(0, 5, 16 - height, 1, height, false));
            R.due("beyond the last row, height " + height, Check.ARGUMENT, Boards::mixed,
                    x -> x.addShape(0, 5, 17 - height, 1, height, false));
        }
    }

    // Terms: At most 12 shapes have numbers from 0.
    private static void addShapeTwelve() {
        Plugboard x = new Plugboard();
        for (int i = 0; i < 12; i++) {
            int number = i;
            C.due("number " + number, number, () -> x.addShape(number % 3, 0, 0, 1, 1, false));
        }
        C.due("12 shapes are seen by three users", 4, () -> x.shapes(1));
        R.due("12 shapes", Check.STATE, StepBoundsTest::twelve, y -> y.addShape(0, 0, 0, 1, 1, false));
        R.due("12 shapes, another user", Check.STATE, StepBoundsTest::twelve, y -> y.addShape(2, 0, 0, 1, 1, true));
        C.due("there is no shape 12 then", false, () -> {
            Plugboard y = twelve();
            Check.answerOf(() -> y.addShape(0, 0, 0, 1, 1, false));
            return y.sees(0, 12);
        });
        R.due("12 shapes that are removed", Check.STATE, StepBoundsTest::twelveGone,
                y -> y.addShape(0, 0, 0, 1, 1, false));
        R.due("12 shapes, argument first", Check.ARGUMENT, StepBoundsTest::twelve,
                y -> y.addShape(0, 24, 0, 1, 1, false));
        R.due("12 shapes, user first", Check.ARGUMENT, StepBoundsTest::twelve,
                y -> y.addShape(3, 0, 0, 1, 1, false));
    }

    private static Plugboard twelve() {
        Plugboard x = Boards.mixed();
        for (int i = 6; i < 12; i++) {
            x.addShape(0, i, 0, 1, 1, false);
        }
        return x;
    }

    private static Plugboard twelveGone() {
        Plugboard x = new Plugboard();
        for (int i = 0; i < 12; i++) {
            x.addShape(0, i, 0, 1, 1, false);
            if (i % 2 == 0) {
                x.remove(0, i);
            } else {
                x.takeBack(0);
            }
        }
        return x;
    }

    // Promise 2: Throws `IllegalStateException` if there are 12 shapes, or 250 operations
    private static void addShapeRoom() {
        room("addShape", 6, x -> x.addShape(0, 0, 0, 1, 1, false));
        R.due("a number first", Check.ARGUMENT, Boards::full, x -> x.addShape(0, 0, 0, 9, 1, false));
        R.due("the board first", Check.ARGUMENT, Boards::full, x -> x.addShape(0, 17, 0, 8, 1, false));
        R.due("the user first", Check.ARGUMENT, Boards::full, x -> x.addShape(-1, 0, 0, 1, 1, false));
    }

    // Promise 3: Throws `IllegalArgumentException` if there is no such user, or the shape would go beyond the board
    private static void moveUsers() {
        R.noUser("move", Boards::mixed, (x, user) -> x.move(user, Boards.FREE, 0, 0));
        R.noUser("move", Boards::full, (x, user) -> x.move(user, Boards.LOCKED, 24, 16));
    }

    private static void movePlaces() {
        int[] columns = {-1, 22, 23, 24, Integer.MIN_VALUE, Integer.MAX_VALUE, Integer.MAX_VALUE - 1};
        int[] rows = {-1, 15, 16, 17, Integer.MIN_VALUE, Integer.MAX_VALUE, Integer.MAX_VALUE - 1};
        for (int i = 0; i < columns.length; i++) {
            int column = i == 1 ? 23 : columns[i];
            int row = rows[i];
            R.due("column " + column, Check.ARGUMENT, Boards::mixed, x -> x.move(0, Boards.FREE, column, 0));
            R.due("row " + row, Check.ARGUMENT, Boards::mixed, x -> x.move(0, Boards.FREE, 0, row));
            R.due("frame, row " + row, Check.ARGUMENT, Boards::mixed, x -> x.move(0, Boards.FRAME, 0, row));
            R.due("both", Check.ARGUMENT, Boards::mixed, x -> x.move(0, Boards.FREE, column, row));
        }
        int[][] corners = {{0, 0}, {22, 0}, {0, 14}, {22, 14}};
        for (int[] corner : corners) {
            makes("a corner", 1, Boards::mixed, 0, x -> x.move(0, Boards.FREE, corner[0], corner[1]));
            Plugboard x = Boards.mixed();
            x.move(0, Boards.FREE, corner[0], corner[1]);
            C.due("column", corner[0], () -> x.columnOf(0, Boards.FREE));
            C.due("row", corner[1], () -> x.rowOf(0, Boards.FREE));
        }
        makes("one cell in the last corner", 1, Boards::mixed, 0, x -> x.move(0, Boards.OTHER, 23, 15));
    }

    // Promise 3: Throws `NoSuchElementException` if there is no such shape, or the user does not see it
    private static void moveShapes() {
        R.noShape("move", Boards::mixed, (x, shape) -> x.move(0, shape, 0, 0));
        R.noShape("move, ahead of 250 operations", Boards::full, (x, shape) -> x.move(0, shape, 0, 0));
        R.due("beyond the board first", Check.ARGUMENT, Boards::mixed, x -> x.move(0, Boards.UNKNOWN, 23, 0));
        R.due("beyond the board first", Check.ARGUMENT, Boards::full, x -> x.move(0, Boards.REMOVED, 0, 15));
    }

    // Promise 3: Throws `UnsupportedOperationException` if another user has locked it on the board of the user
    private static void moveLocked() {
        R.due("move", Check.UNSUPPORTED, Boards::mixed, x -> x.move(0, Boards.LOCKED, 0, 0));
        R.due("move to where it is", Check.UNSUPPORTED, Boards::mixed, x -> x.move(0, Boards.LOCKED, 10, 4));
        R.due("locked ahead of 250 operations", Check.UNSUPPORTED, Boards::full, x -> x.move(0, Boards.LOCKED, 0, 0));
        R.due("beyond the board first", Check.ARGUMENT, Boards::full, x -> x.move(0, Boards.LOCKED, 22, 0));
        makes("the one who has locked it", 1, Boards::mixed, 1, x -> x.move(1, Boards.LOCKED, 0, 0));
        makes("one's own lock", 1, StepBoundsTest::lockedByItself, 0, x -> x.move(0, Boards.FREE, 0, 0));
        makes("a lock that is not known", 1, StepBoundsTest::lockedFarAway, 0, x -> x.move(0, Boards.FREE, 0, 0));
    }

    private static Plugboard lockedByItself() {
        Plugboard x = Boards.mixed();
        x.lock(0, Boards.FREE);
        return x;
    }

    private static Plugboard lockedAndRemoved() {
        Plugboard x = lockedByItself();
        x.remove(0, Boards.FREE);
        return x;
    }

    private static Plugboard lockedFarAway() {
        Plugboard x = Boards.mixed();
        x.lock(1, Boards.FREE);
        return x;
    }

    // Promise 3: Moves a shape, and what it carries if it is a frame.
    private static void moveWhatIsNoFrame() {
        Plugboard x = new Plugboard();
        x.addShape(0, 4, 4, 8, 8, false);
        x.addShape(0, 5, 5, 2, 2, false);
        C.due("it covers one", 1, () -> x.inside(0, 0));
        C.due("but carries none", 1, () -> x.move(0, 0, 0, 0));
        C.due("which stays", 5, () -> x.columnOf(0, 1));
    }

    // Promise 3: Throws `IllegalStateException` if there are 250 operations
    private static void moveRoom() {
        room("move", 1, x -> x.move(0, Boards.FREE, 4, 4));
        room("move a frame", 2, x -> x.move(0, Boards.FRAME, 18, 10));
    }

    // Promise 4: Throws `IllegalArgumentException` if there is no such user
    // Promise 4: Throws `NoSuchElementException` if there is no such shape, or the user does not see it
    // Promise 4: Throws `UnsupportedOperationException` if another user has locked it on the board of the user
    // Promise 4: Throws `IllegalStateException` if there are 250 operations
    private static void raise() {
        R.noUser("raise", Boards::mixed, (x, user) -> x.raise(user, Boards.FREE));
        R.noUser("raise, ahead of the shape", Boards::full, (x, user) -> x.raise(user, Boards.NO_SHAPE));
        R.noShape("raise", Boards::mixed, (x, shape) -> x.raise(0, shape));
        R.noShape("raise, ahead of 250 operations", Boards::full, (x, shape) -> x.raise(0, shape));
        R.due("raise", Check.UNSUPPORTED, Boards::mixed, x -> x.raise(0, Boards.LOCKED));
        R.due("locked ahead of 250 operations", Check.UNSUPPORTED, Boards::full, x -> x.raise(0, Boards.LOCKED));
        makes("the one who has locked it", 4, Boards::mixed, 1, x -> x.raise(1, Boards.LOCKED));
        makes("one's own lock", 3, StepBoundsTest::lockedByItself, 0, x -> x.raise(0, Boards.FREE));
        makes("a lock that is not known", 3, StepBoundsTest::lockedFarAway, 0, x -> x.raise(0, Boards.FREE));
        makes("the only shape", 0, Boards::mixed, 2, x -> x.raise(2, Boards.UNKNOWN));
        room("raise", 3, x -> x.raise(0, Boards.FREE));
    }

    // Promise 5: Throws `IllegalArgumentException` if there is no such user
    // Promise 5: Throws `NoSuchElementException` if there is no such shape, or the user does not see it
    // Promise 5: Throws `UnsupportedOperationException` if another user has locked it on the board of the user
    // Promise 5: Throws `IllegalStateException` if there are 250 operations
    private static void lower() {
        R.noUser("lower", Boards::mixed, (x, user) -> x.lower(user, Boards.FREE));
        R.noUser("lower, ahead of the shape", Boards::full, (x, user) -> x.lower(user, Boards.NO_SHAPE));
        R.noShape("lower", Boards::mixed, (x, shape) -> x.lower(0, shape));
        R.noShape("lower, ahead of 250 operations", Boards::full, (x, shape) -> x.lower(0, shape));
        R.due("lower", Check.UNSUPPORTED, Boards::mixed, x -> x.lower(0, Boards.LOCKED));
        R.due("locked ahead of 250 operations", Check.UNSUPPORTED, Boards::full, x -> x.lower(0, Boards.LOCKED));
        makes("the one who has locked it", 0, Boards::mixed, 1, x -> x.lower(1, Boards.LOCKED));
        makes("one's own lock", 0, StepBoundsTest::lockedByItself, 0, x -> x.lower(0, Boards.FREE));
        makes("a lock that is not known", 0, StepBoundsTest::lockedFarAway, 0, x -> x.lower(0, Boards.FREE));
        makes("the only shape", 0, Boards::mixed, 2, x -> x.lower(2, Boards.UNKNOWN));
        room("lower", 0, x -> x.lower(0, Boards.OTHER));
    }

    // Promise 6: Throws `IllegalArgumentException` if there is no such user, or both shapes are the same
    // Promise 6: Throws `NoSuchElementException` if one of both shapes does not exist, or the user does not see it
    // Promise 6: Throws `IllegalStateException` if there are 250 operations
    private static void putAbove() {
        R.noUser("putAbove", Boards::mixed, (x, user) -> x.putAbove(user, Boards.FREE, Boards.OTHER));
        R.noUser("putAbove, first", Boards::full, (x, user) -> x.putAbove(user, Boards.LOCKED, Boards.NO_SHAPE));
        int[] all = {Boards.FREE, Boards.LOCKED, Boards.UNKNOWN, Boards.REMOVED, Boards.NO_SHAPE, -1, 12};
        for (int shape : all) {
            R.due("twice " + shape, Check.ARGUMENT, Boards::mixed, x -> x.putAbove(0, shape, shape));
            R.due("twice " + shape, Check.ARGUMENT, Boards::full, x -> x.putAbove(0, shape, shape));
        }
        R.noShape("putAbove", Boards::mixed, (x, shape) -> x.putAbove(0, shape, Boards.FREE));
        R.noShape("putAbove, other", Boards::mixed, (x, shape) -> x.putAbove(0, Boards.FREE, shape));
        R.noShape("putAbove, other ahead of locked", Boards::full, (x, shape) -> x.putAbove(0, Boards.LOCKED, shape));
        R.noShape("putAbove, ahead of 250", Boards::full, (x, shape) -> x.putAbove(0, shape, Boards.LOCKED));
        R.due("none of both", Check.ELEMENT, Boards::mixed, x -> x.putAbove(0, Boards.UNKNOWN, Boards.REMOVED));
        room("putAbove", 2, x -> x.putAbove(0, Boards.FREE, Boards.FRAME));
    }

    // Promise 6: Throws `UnsupportedOperationException` if another user has locked it on the board of the user, or half
    // of the sum would be one of both keys
    private static void putAboveHalf() {
        R.due("locked", Check.UNSUPPORTED, Boards::mixed, x -> x.putAbove(0, Boards.LOCKED, Boards.FREE));
        R.due("locked ahead of 250", Check.UNSUPPORTED, Boards::full, x -> x.putAbove(0, Boards.LOCKED, Boards.FREE));
        makes("above a locked one", 1, Boards::mixed, 0, x -> x.putAbove(0, Boards.OTHER, Boards.LOCKED) - 1);
        makes("the one who has locked it", 1, Boards::mixed, 1, x -> x.putAbove(1, Boards.LOCKED, Boards.FREE));
        makes("half is neither", 1, () -> Boards.halved(148), 0, x -> x.putAbove(0, 2, 0));
        C.due("the smallest float", 1, () -> Boards.tight().keyBits(0, 2));
        R.due("half is the lower key", Check.UNSUPPORTED, Boards::tight, x -> x.putAbove(0, 1, 0));
        R.due("half is the lower key, its own the next", Check.UNSUPPORTED, Boards::tight, x -> x.putAbove(0, 2, 0));
        R.due("half is the greater key", Check.UNSUPPORTED, Boards::tight, x -> x.putAbove(0, 0, 2));
        R.due("half is the greater key, its own", Check.UNSUPPORTED, Boards::tight, x -> x.putAbove(0, 1, 2));
        makes("no greater key", 2, Boards::tight, 0, x -> x.putAbove(0, 0, 1));
        R.due("ahead of 250", Check.UNSUPPORTED, () -> Boards.with(Boards.tight(), 250), x -> x.putAbove(0, 2, 0));
        R.due("shape first", Check.ELEMENT, Boards::tight, x -> x.putAbove(0, 3, 0));
        C.due("the next float above 1", 0x3f800001, () -> tightAtOne().keyBits(0, 3));
        R.due("half is the lower key", Check.UNSUPPORTED, StepBoundsTest::tightAtOne, x -> x.putAbove(0, 0, 1));
        C.due("the float above that", 0x3f800002, () -> tightAtOne().keyBits(0, 2));
        R.due("half is the greater key", Check.UNSUPPORTED, StepBoundsTest::tightAtOne, x -> x.putAbove(0, 0, 3));
    }

    // Shape 3 is put above shape 1, and shape 2 above shape 3, until no float lies between them.
    private static Plugboard tightAtOne() {
        Plugboard x = new Plugboard();
        for (int i = 0; i < 4; i++) {
            x.addShape(0, 0, 0, 1, 1, false);
        }
        for (int i = 0; i < 24; i++) {
            x.putAbove(0, 3, 1);
            if (x.keyBits(0, 3) == 0x3f800001) {
                break;
            }
        }
        for (int i = 0; i < 23; i++) {
            x.putAbove(0, 2, 3);
            if (x.keyBits(0, 2) == 0x3f800002) {
                break;
            }
        }
        return x;
    }

    // Promise 7: Throws `IllegalArgumentException` if there is no such user
    // Promise 7: Throws `NoSuchElementException` if there is no such shape, or the user does not see it
    // Promise 7: Throws `UnsupportedOperationException` if another user has locked it on the board of the user
    // Promise 7: Throws `IllegalStateException` if there are 250 operations
    private static void remove() {
        R.noUser("remove", Boards::mixed, (x, user) -> x.remove(user, Boards.FREE));
        R.noUser("remove, ahead of the shape", Boards::full, (x, user) -> x.remove(user, Boards.NO_SHAPE));
        R.noShape("remove", Boards::mixed, (x, shape) -> x.remove(0, shape));
        R.noShape("remove, ahead of 250 operations", Boards::full, (x, shape) -> x.remove(0, shape));
        R.due("remove", Check.UNSUPPORTED, Boards::mixed, x -> x.remove(0, Boards.LOCKED));
        R.due("locked ahead of 250 operations", Check.UNSUPPORTED, Boards::full, x -> x.remove(0, Boards.LOCKED));
        makes("the one who has locked it", 4, Boards::mixed, 1, x -> x.remove(1, Boards.LOCKED));
        makes("one's own lock", 3, StepBoundsTest::lockedByItself, 0, x -> x.remove(0, Boards.FREE));
        makes("a lock that is not known", 3, StepBoundsTest::lockedFarAway, 0, x -> x.remove(0, Boards.FREE));
        makes("the only shape", 0, Boards::mixed, 2, x -> x.remove(2, Boards.UNKNOWN));
        room("remove", 3, x -> x.remove(0, Boards.FREE));
    }

    // Promise 8: Throws `IllegalArgumentException` if there is no such user
    // Promise 8: Throws `NoSuchElementException` if there is no such shape, or the user does not see it
    // Promise 8: Throws `UnsupportedOperationException` if another user has locked it on the board of the user
    // Promise 8: Throws `IllegalStateException` if there are 250 operations
    private static void lock() {
        R.noUser("lock", Boards::mixed, (x, user) -> x.lock(user, Boards.FREE));
        R.noUser("lock, ahead of the shape", Boards::full, (x, user) -> x.lock(user, Boards.NO_SHAPE));
        R.noShape("lock", Boards::mixed, (x, shape) -> x.lock(0, shape));
        R.noShape("lock, ahead of 250 operations", Boards::full, (x, shape) -> x.lock(0, shape));
        R.due("lock", Check.UNSUPPORTED, Boards::mixed, x -> x.lock(0, Boards.LOCKED));
        R.due("locked ahead of 250 operations", Check.UNSUPPORTED, Boards::full, x -> x.lock(0, Boards.LOCKED));
        makes("the one who has locked it", 1, Boards::mixed, 1, x -> x.lock(1, Boards.LOCKED));
        makes("one's own lock", 1, StepBoundsTest::lockedByItself, 0, x -> x.lock(0, Boards.FREE));
        makes("a lock that is not known", 1, StepBoundsTest::lockedFarAway, 0, x -> x.lock(0, Boards.FREE));
        makes("one that is not seen does not count", 1, StepBoundsTest::lockedAndRemoved, 0,
                x -> x.lock(0, Boards.OTHER));
        makes("a second one", 2, StepBoundsTest::lockedByItself, 0, x -> x.lock(0, Boards.OTHER));
        makes("user 2", 1, Boards::mixed, 2, x -> x.lock(2, Boards.UNKNOWN));
        room("lock", 1, x -> x.lock(0, Boards.FREE));
    }

    // Promise 9: Throws `IllegalArgumentException` if there is no such user
    // Promise 9: Throws `NoSuchElementException` if there is no such shape, or the user does not see it
    // Promise 9: Throws `UnsupportedOperationException` if nobody has locked it on the board of the user
    // Promise 9: Throws `IllegalStateException` if there are 250 operations
    // Promise 9: Ends that a shape is locked, whoever has locked it.
    private static void unlock() {
        R.noUser("unlock", Boards::mixed, (x, user) -> x.unlock(user, Boards.LOCKED));
        R.noUser("unlock, ahead of the shape", Boards::full, (x, user) -> x.unlock(user, Boards.NO_SHAPE));
        R.noShape("unlock", Boards::mixed, (x, shape) -> x.unlock(0, shape));
        R.noShape("unlock, ahead of 250 operations", Boards::full, (x, shape) -> x.unlock(0, shape));
        R.due("nobody", Check.UNSUPPORTED, Boards::mixed, x -> x.unlock(0, Boards.FREE));
        R.due("nobody ahead of 250 operations", Check.UNSUPPORTED, Boards::full, x -> x.unlock(0, Boards.FREE));
        R.due("nobody here", Check.UNSUPPORTED, StepBoundsTest::lockedFarAway, x -> x.unlock(0, Boards.FREE));
        R.due("nobody any more", Check.UNSUPPORTED, StepBoundsTest::unlocked, x -> x.unlock(0, Boards.LOCKED));
        makes("not known to be unlocked", 1, StepBoundsTest::unlocked, 1, x -> x.unlock(1, Boards.LOCKED));
        makes("another user", 1, Boards::mixed, 0, x -> x.unlock(0, Boards.LOCKED));
        makes("the one who has locked it", 1, Boards::mixed, 1, x -> x.unlock(1, Boards.LOCKED));
        makes("user 0 had", 0, StepBoundsTest::lockedByItself, 0, x -> x.unlock(0, Boards.FREE));
        room("unlock", 1, x -> x.unlock(0, Boards.LOCKED));
    }

    private static Plugboard unlocked() {
        Plugboard x = Boards.mixed();
        x.unlock(0, Boards.LOCKED);
        return x;
    }

    // Promise 10: Throws `IllegalArgumentException` if there is no such user, or there is no such side, or both shapes
    // are the same
    private static void connectUsers() {
        R.noUser("connect", Boards::mixed, (x, user) -> x.connect(user, Boards.FREE, 't', Boards.OTHER, 'b'));
        R.noUser("connect, first", Boards::full, (x, user) -> x.connect(user, Boards.NO_SHAPE, 'x', 12, 'b'));
        int[] all = {Boards.FREE, Boards.LOCKED, Boards.UNKNOWN, Boards.REMOVED, Boards.NO_SHAPE, -1, 12};
        for (int shape : all) {
            R.due("twice " + shape, Check.ARGUMENT, Boards::mixed, x -> x.connect(0, shape, 't', shape, 'b'));
            R.due("twice " + shape, Check.ARGUMENT, Boards::full, x -> x.connect(0, shape, 'l', shape, 'l'));
        }
    }

    // Terms: The sides are 't', with the lowest row, 'b', with the greatest row, 'l', with the lowest column, and 'r',
    // with the greatest column.
    private static void connectSides() {
        for (int number = 0; number < 65536; number++) {
            char side = (char) number;
            boolean isSide = "tblr".indexOf(side) >= 0;
            if (number < 256 || isSide || number % 4099 == 0 || number % 256 == 't' || number == 65535) {
                Object due = isSide ? (Object) 5 : Check.ARGUMENT;
                C.due("side " + number, due, () -> Boards.mixed().connect(0, 0, side, 3, 't'));
                C.due("other side " + number, due, () -> Boards.mixed().connect(0, 0, 't', 3, side));
            }
        }
        R.due("no side", Check.ARGUMENT, Boards::mixed, x -> x.connect(0, Boards.FREE, 'T', Boards.OTHER, 'b'));
        R.due("no other side", Check.ARGUMENT, Boards::mixed, x -> x.connect(0, Boards.FREE, 't', Boards.OTHER, ' '));
        R.due("ahead of the shape", Check.ARGUMENT, Boards::full, x -> x.connect(0, -1, 'x', Boards.OTHER, 'b'));
        R.due("ahead of the other shape", Check.ARGUMENT, Boards::full, x -> x.connect(0, 0, 't', -1, 'x'));
    }

    // Promise 10: Throws `NoSuchElementException` if one of both shapes does not exist, or the user does not see it
    private static void connectShapes() {
        R.noShape("connect", Boards::mixed, (x, shape) -> x.connect(0, shape, 't', Boards.FREE, 'b'));
        R.noShape("connect, other", Boards::mixed, (x, shape) -> x.connect(0, Boards.FREE, 't', shape, 'b'));
        R.noShape("connect, ahead of 250", Boards::full, (x, shape) -> x.connect(0, shape, 't', Boards.FREE, 'b'));
        R.noShape("connect, ahead of 8", StepBoundsTest::eight, (x, shape) -> x.connect(0, 0, 't', shape, 'b'));
        makes("a shape that another one has locked", 5, Boards::mixed, 0,
                x -> x.connect(0, Boards.LOCKED, 't', Boards.FRAME, 'b'));
    }

    // Terms: At most 8 connectors have numbers from 0
    private static void connectEight() {
        Plugboard x = Boards.mixed();
        for (int i = 5; i < 8; i++) {
            int number = i;
            C.due("number " + number, number, () -> x.connect(number % 2, Boards.FREE, 't', Boards.OTHER, 'b'));
        }
        R.due("8 connectors", Check.STATE, StepBoundsTest::eight,
                y -> y.connect(0, Boards.FREE, 't', Boards.OTHER, 'b'));
        R.due("8 connectors, another user", Check.STATE, StepBoundsTest::eight,
                y -> y.connect(1, Boards.FREE, 't', Boards.OTHER, 'b'));
        R.due("8 connectors that are removed", Check.STATE, StepBoundsTest::eightGone,
                y -> y.connect(0, 0, 't', 1, 'b'));
        R.due("8 connectors, argument first", Check.ARGUMENT, StepBoundsTest::eight,
                y -> y.connect(0, Boards.FREE, 't', Boards.OTHER, 'B'));
    }

    private static Plugboard eight() {
        Plugboard x = Boards.mixed();
        for (int i = 5; i < 8; i++) {
            x.connect(0, Boards.FREE, 't', Boards.OTHER, 'b');
        }
        return x;
    }

    private static Plugboard eightGone() {
        Plugboard x = new Plugboard();
        x.addShape(0, 0, 0, 1, 1, false);
        x.addShape(0, 4, 4, 1, 1, false);
        for (int i = 0; i < 8; i++) {
            x.connect(0, 0, 'l', 1, 'r');
            if (i % 2 == 0) {
                x.disconnect(0, i);
            } else {
                x.takeBack(0);
            }
        }
        return x;
    }

    // Promise 10: Throws `IllegalStateException` if there are 8 connectors, or 250 operations
    private static void connectRoom() {
        room("connect", 5, x -> x.connect(0, Boards.FREE, 't', Boards.OTHER, 'b'));
    }

    // Promise 11: Throws `IllegalArgumentException` if there is no such user
    // Promise 11: Throws `NoSuchElementException` if there is no such connector, or the user does not see it
    // Promise 11: Throws `IllegalStateException` if there are 250 operations
    private static void disconnect() {
        R.noUser("disconnect", Boards::mixed, (x, user) -> x.disconnect(user, Boards.LINE));
        R.noUser("disconnect, first", Boards::full, (x, user) -> x.disconnect(user, Boards.NO_CONNECTOR));
        R.noConnector("disconnect", Boards::mixed, (x, connector) -> x.disconnect(0, connector));
        R.noConnector("disconnect, ahead of 250", Boards::full, (x, connector) -> x.disconnect(0, connector));
        makes("of a shape that another user has locked", 1, Boards::mixed, 0, x -> x.disconnect(0, Boards.LINE));
        makes("removed, but not known to be", 4, Boards::mixed, 1, x -> x.disconnect(1, Boards.LOOSE));
        room("disconnect", 1, x -> x.disconnect(0, Boards.BLOCKED));
    }

    // Promise 12: Throws `IllegalArgumentException` if there is no such user, or the number of votes is out of range
    private static void voteUsers() {
        R.noUser("vote", Boards::mixed, (x, user) -> x.vote(user, Boards.FREE, 1));
        R.noUser("vote, first", Boards::fullAndShown, (x, user) -> x.vote(user, Boards.NO_SHAPE, 4));
    }

    // Promise 12: how many votes, 0 to 3
    private static void voteCounts() {
        for (int count : new int[] {-1, 4, 5, 6, Integer.MIN_VALUE, Integer.MAX_VALUE}) {
            R.due("votes " + count, Check.ARGUMENT, Boards::mixed, x -> x.vote(0, Boards.FREE, count));
            R.due("ahead of the shape", Check.ARGUMENT, Boards::mixed, x -> x.vote(0, Boards.NO_SHAPE, count));
            R.due("ahead of all else", Check.ARGUMENT, Boards::fullAndShown, x -> x.vote(0, Boards.FREE, count));
        }
        for (int number = 0; number <= 3; number++) {
            int count = number;
            makes("votes " + count, 3, Boards::mixed, 0, x -> x.vote(0, Boards.FREE, count));
            makes("votes " + count, 0, Boards::mixed, 2, x -> x.vote(2, Boards.UNKNOWN, count));
            Plugboard x = Boards.mixed();
            x.vote(0, Boards.FREE, count);
            C.due("own votes", count, () -> x.ownVotes(0, Boards.FREE));
        }
    }

    // Promise 12: Throws `NoSuchElementException` if there is no such shape, or the user does not see it
    private static void voteShapes() {
        R.noShape("vote", Boards::mixed, (x, shape) -> x.vote(0, shape, 0));
        R.noShape("vote, ahead of 5", Boards::mixed, (x, shape) -> x.vote(0, shape, 3));
        R.noShape("vote, ahead of shown", Boards::mixedAndShown, (x, shape) -> x.vote(0, shape, 1));
        R.noShape("vote, ahead of 250", Boards::full, (x, shape) -> x.vote(0, shape, 1));
    }

    // Terms: A user gives at most 5 votes to all shapes together, those that are not seen included.
    // Promise 12: Throws `UnsupportedOperationException` if votes are shown on the board of the user, or the user would
    // give more than 5
    private static void voteFive() {
        makes("5 with 4 given", 0, Boards::mixed, 0, x -> x.vote(0, Boards.LOCKED, 1));
        R.due("6 with 4 given", Check.UNSUPPORTED, Boards::mixed, x -> x.vote(0, Boards.LOCKED, 2));
        makes("5, in place of 1", 1, Boards::mixed, 0, x -> x.vote(0, Boards.OTHER, 2));
        R.due("6, in place of 1", Check.UNSUPPORTED, Boards::mixed, x -> x.vote(0, Boards.OTHER, 3));
        R.due("6 ahead of 250", Check.UNSUPPORTED, Boards::full, x -> x.vote(0, Boards.FRAME, 2));
        makes("5 with 4 for one that is not seen", 0, StepBoundsTest::voteGone, 0, x -> x.vote(0, Boards.OTHER, 2));
        R.due("6 with 3 for one that is not seen", Check.UNSUPPORTED, StepBoundsTest::voteGone,
                x -> x.vote(0, Boards.OTHER, 3));
        makes("another user's do not count", 0, Boards::mixed, 1, x -> x.vote(1, Boards.LOCKED, 3));
        makes("not those that are taken back", 1, StepBoundsTest::voteBack, 0, x -> x.vote(0, Boards.OTHER, 3) + 1);
        makes("no more with 5 given", 0, StepBoundsTest::voteAll, 0, x -> x.vote(0, Boards.FRAME, 0));
        R.due("one more with 5 given", Check.UNSUPPORTED, StepBoundsTest::voteAll, x -> x.vote(0, Boards.FRAME, 1));
        makes("fewer with 5 given", 2, StepBoundsTest::voteAll, 0, x -> x.vote(0, Boards.OTHER, 0));
    }

    // 3 votes for a shape that is removed, none for others.
    private static Plugboard voteGone() {
        Plugboard x = Boards.mixed();
        x.vote(0, Boards.OTHER, 0);
        x.remove(0, Boards.FREE);
        return x;
    }

    private static Plugboard voteBack() {
        Plugboard x = Boards.mixed();
        x.takeBack(0);
        x.takeBack(0);
        return x;
    }

    private static Plugboard voteAll() {
        Plugboard x = Boards.mixed();
        x.vote(0, Boards.OTHER, 2);
        return x;
    }

    // Terms: While votes are shown on a user's board, this user cannot vote.
    private static void voteShown() {
        for (int number = 0; number <= 3; number++) {
            int count = number;
            R.due("shown, votes " + count, Check.UNSUPPORTED, Boards::mixedAndShown,
                    x -> x.vote(0, Boards.FREE, count));
        }
        R.due("shown ahead of 250", Check.UNSUPPORTED, Boards::fullAndShown, x -> x.vote(0, Boards.FREE, 0));
        makes("shown on another board", 0, Boards::mixedAndShown, 1, x -> x.vote(1, Boards.FREE, 1));
        makes("hidden again", 3, StepBoundsTest::hidden, 0, x -> x.vote(0, Boards.FREE, 1));
    }

    private static Plugboard hidden() {
        Plugboard x = Boards.mixedAndShown();
        x.show(0, false);
        return x;
    }

    // Promise 12: Throws `IllegalStateException` if there are 250 operations
    private static void voteRoom() {
        room("vote", 3, x -> x.vote(0, Boards.FREE, 3));
        makes("vote for a shape that another user has locked", 0, Boards::mixed, 0, x -> x.vote(0, Boards.LOCKED, 1));
    }

    // Promise 13: Throws `IllegalArgumentException` if there is no such user
    // Promise 13: Throws `IllegalStateException` if there are 250 operations
    private static void show() {
        R.noUser("show", Boards::mixed, (x, user) -> x.show(user, true));
        R.noUser("hide", Boards::fullAndShown, (x, user) -> x.show(user, false));
        room("show", false, x -> x.show(0, true));
        room("hide what is hidden", false, x -> x.show(0, false));
        makes("show what is shown", true, Boards::mixedAndShown, 0, x -> x.show(0, true));
        makes("hide", true, Boards::mixedAndShown, 0, x -> x.show(0, false));
        makes("shown on another board", false, Boards::mixedAndShown, 1, x -> x.show(1, true));
        R.due("full and shown", Check.STATE, Boards::fullAndShown, x -> x.show(0, false));
    }

    // Promise 14: Throws `IllegalArgumentException` if there is no such user
    private static void takeBackUsers() {
        R.noUser("takeBack", Boards::mixed, (x, user) -> x.takeBack(user));
        R.noUser("takeBack", Boards::full, (x, user) -> x.takeBack(user));
        R.noUser("takeBack of nothing", Plugboard::new, (x, user) -> x.takeBack(user));
    }

    // Promise 14: Throws `NoSuchElementException` if there is none
    private static void takeBackNone() {
        for (int number = 0; number < 3; number++) {
            int user = number;
            R.due("no step at all", Check.ELEMENT, Plugboard::new, x -> x.takeBack(user));
            R.due("all steps are taken back", Check.ELEMENT, StepBoundsTest::allBack, x -> x.takeBack(user));
            R.due("none ahead of 250", Check.ELEMENT, () -> fullOfTwo(user), x -> x.takeBack(user));
        }
        R.due("the steps of others", Check.ELEMENT, StepBoundsTest::stepsOfOthers, x -> x.takeBack(1));
    }

    private static Plugboard allBack() {
        Plugboard x = new Plugboard();
        for (int user = 0; user < 3; user++) {
            x.show(user, true);
            x.show(user, true);
            x.takeBack(user);
            x.takeBack(user);
        }
        return x;
    }

    private static Plugboard stepsOfOthers() {
        Plugboard x = new Plugboard();
        x.show(0, true);
        x.show(2, true);
        x.sync(0, 1);
        x.sync(1, 2);
        return x;
    }

    // 250 operations of the two other users.
    private static Plugboard fullOfTwo(int idle) {
        Plugboard x = new Plugboard();
        for (int i = 0; i < 250; i++) {
            x.show((idle + 1 + i % 2) % 3, i % 3 == 0);
        }
        return x;
    }

    // Promise 14: Throws `IllegalStateException` if there are 250 operations
    private static void takeBackRoom() {
        room("takeBack", 1, x -> x.takeBack(0));
        R.due("takeBack of another user", Check.STATE, Boards::full, x -> x.takeBack(1));
        R.due("takeBack of the only step, twice", Check.STATE, StepBoundsTest::fullOfOthers, x -> {
            Check.answerOf(() -> x.takeBack(0));
            return x.takeBack(0);
        });
        makes("takeBack of the only step", 3, StepBoundsTest::addedOnce, 0, x -> x.takeBack(0));
    }

    private static Plugboard fullOfOthers() {
        Plugboard x = new Plugboard();
        x.show(0, true);
        return Boards.with(x, 250);
    }

    private static Plugboard addedOnce() {
        Plugboard x = new Plugboard();
        x.addShape(0, 23, 15, 1, 1, true);
        return x;
    }

    // Promise 15: Throws `IllegalArgumentException` if there is no such user
    // Promise 15: Throws `NoSuchElementException` if there is no such operation
    // Promise 15: Throws `IllegalStateException` if the user knows it
    private static void deliver() {
        R.noUser("deliver", Boards::mixed, (x, user) -> x.deliver(user, 4));
        R.noUser("deliver, ahead of the operation", Boards::mixed, (x, user) -> x.deliver(user, -1));
        R.noOperation("deliver", Boards::mixed, (x, operation) -> x.deliver(0, operation));
        R.noOperation("deliver", Boards::full, (x, operation) -> x.deliver(1, operation));
        R.noOperation("deliver", Plugboard::new, (x, operation) -> x.deliver(1, operation));
        R.due("an own one", Check.STATE, Boards::mixed, x -> x.deliver(0, 0));
        R.due("the own last one", Check.STATE, Boards::mixed, x -> x.deliver(1, 15));
        R.due("one that was delivered", Check.STATE, Boards::mixed, x -> x.deliver(1, 0));
        R.due("twice", Check.STATE, StepBoundsTest::delivered, x -> x.deliver(2, 0));
        Plugboard x = Boards.full();
        C.due("the first one", 236, () -> x.deliver(2, 0));
        C.due("the last one", 12, () -> x.deliver(1, 249));
        C.due("no operation is made", 250, () -> x.operations());
    }

    private static Plugboard delivered() {
        Plugboard x = Boards.mixed();
        x.deliver(2, 0);
        return x;
    }

    // Promise 16: Throws `IllegalArgumentException` if there is no such user, or both are the same
    private static void sync() {
        R.noUser("sync", Boards::mixed, (x, user) -> x.sync(user, 0));
        R.noUser("sync, the other one", Boards::mixed, (x, user) -> x.sync(0, user));
        R.noUser("sync, both", Boards::mixed, (x, user) -> x.sync(user, user));
        for (int number = 0; number < 3; number++) {
            int user = number;
            R.due("the same", Check.ARGUMENT, Boards::mixed, x -> x.sync(user, user));
            int other = (user + 1) % 3;
            C.due("of nothing", 0, () -> new Plugboard().sync(user, other));
            C.due("of nothing, the other way round", 0, () -> new Plugboard().sync(other, user));
        }
        Plugboard x = Boards.full();
        C.due("all that there is", 235 + 14, () -> x.sync(0, 2));
        C.due("nothing is left", 0, () -> x.sync(2, 0));
        C.due("no operation is made", 250, () -> x.operations());
    }
}
