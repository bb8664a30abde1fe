import java.util.NoSuchElementException;

/**
 * A whiteboard that three users share. Each user has an own board; every step makes an operation, and a board
 * keeps in each field what the latest operation known to its user wrote there, so that boards that know the same
 * operations are alike in whatever order these came.
 */
public final class Plugboard {
    private static final int NONE = -1;
    private static final int USERS = 3;
    private static final int SHAPES = 12;
    private static final int CONNECTORS = 8;
    private static final int OPERATIONS = 250;
    private static final int COLUMNS = 24;
    private static final int ROWS = 16;
    private static final int CELLS = 384;
    private static final int LONGEST_SIDE = 8;
    private static final int MOST_VOTES_FOR_ONE = 3;
    private static final int MOST_VOTES_OF_ONE = 5;
    private static final int MOST_MIXED = 4;
    private static final int MOST_ORDERS = 24;
    private static final int SIGN_BIT = 0x80000000;

    // All fields of a board have one numbering, so that writing, taking back and comparing know no kinds.
    // Every first value is 0: a place is the number of its cell, and a lock holds its user plus 1.
    private static final int THERE = 0;
    private static final int PLACE = THERE + SHAPES;
    private static final int KEY = PLACE + SHAPES;
    private static final int LOCK = KEY + SHAPES;
    private static final int JOINED = LOCK + SHAPES;
    private static final int VOTES = JOINED + CONNECTORS;
    private static final int SHOWN = VOTES + USERS * SHAPES;
    private static final int FIELDS = SHOWN + 1;

    // The longest operation moves all shapes, so none writes more fields than there are shapes.
    private static final int WRITES = OPERATIONS * SHAPES;

    private final Log log = new Log();
    private final Parts parts = new Parts();
    private final User[] users = new User[USERS];
    private final Replay replay = new Replay(log, parts);
    private final Router router = new Router();

    public Plugboard() {
        for (int user = 0; user < USERS; user++) {
            users[user] = new User(user, log, parts);
        }
    }

    public int addShape(int user, int column, int row, int width, int height, boolean isFrame)
            throws IllegalArgumentException, IllegalStateException {
        User who = needUser(user);
        if (!isSide(width) || !isSide(height) || !fits(column, row, width, height)) {
            throw new IllegalArgumentException("the shape is not on the board");
        }
        if (parts.shapeCount >= SHAPES) {
            throw new IllegalStateException("there are 12 shapes");
        }
        needRoom();
        float key = who.view.countShapes() == 0 ? 0.0f : who.view.greatestKey() + 1.0f;
        int shape = parts.makeShape(width, height, isFrame);
        who.begin(true);
        who.write(THERE + shape, 1.0f);
        who.write(PLACE + shape, cellAt(column, row));
        who.write(KEY + shape, key);
        who.end();
        return shape;
    }

    public int move(int user, int shape, int column, int row) throws IllegalArgumentException,
            NoSuchElementException, UnsupportedOperationException, IllegalStateException {
        User who = needUser(user);
        if (parts.hasShape(shape) && !fits(column, row, parts.widthAt(shape), parts.heightAt(shape))) {
            throw new IllegalArgumentException("the shape would go beyond the board");
        }
        needChangeable(who, shape);
        needRoom();
        return carry(who, shape, cellAt(column, row));
    }

    public int raise(int user, int shape) throws IllegalArgumentException, NoSuchElementException,
            UnsupportedOperationException, IllegalStateException {
        User who = needUser(user);
        needChangeable(who, shape);
        needRoom();
        return giveKey(who, shape, who.view.greatestKey() + 1.0f);
    }

    public int lower(int user, int shape) throws IllegalArgumentException, NoSuchElementException,
            UnsupportedOperationException, IllegalStateException {
        User who = needUser(user);
        needChangeable(who, shape);
        needRoom();
        return giveKey(who, shape, who.view.lowestKey() - 1.0f);
    }

    public int putAbove(int user, int shape, int other) throws IllegalArgumentException, NoSuchElementException,
            UnsupportedOperationException, IllegalStateException {
        User who = needUser(user);
        if (shape == other) {
            throw new IllegalArgumentException("both shapes are the same");
        }
        needSeen(who, other);
        needChangeable(who, shape);
        float key = keyAbove(who.view, other);
        needRoom();
        return giveKey(who, shape, key);
    }

    public int remove(int user, int shape) throws IllegalArgumentException, NoSuchElementException,
            UnsupportedOperationException, IllegalStateException {
        User who = needUser(user);
        needChangeable(who, shape);
        needRoom();
        who.step(THERE + shape, 0.0f);
        return who.view.countShapes();
    }

    public int lock(int user, int shape) throws IllegalArgumentException, NoSuchElementException,
            UnsupportedOperationException, IllegalStateException {
        User who = needUser(user);
        needChangeable(who, shape);
        needRoom();
        who.step(LOCK + shape, user + 1);
        return who.view.countLockedBy(user);
    }

    public int unlock(int user, int shape) throws IllegalArgumentException, NoSuchElementException,
            UnsupportedOperationException, IllegalStateException {
        User who = needUser(user);
        needSeen(who, shape);
        int locker = who.view.lockerAt(shape);
        if (locker == NONE) {
            throw new UnsupportedOperationException("nobody has locked the shape");
        }
        needRoom();
        who.step(LOCK + shape, 0.0f);
        return locker;
    }

    public int connect(int user, int shape, char side, int other, char otherSide)
            throws IllegalArgumentException, NoSuchElementException, IllegalStateException {
        User who = needUser(user);
        if (!isSideName(side) || !isSideName(otherSide) || shape == other) {
            throw new IllegalArgumentException("no such side, or both shapes are the same");
        }
        needSeen(who, shape);
        needSeen(who, other);
        if (parts.connectorCount >= CONNECTORS) {
            throw new IllegalStateException("there are 8 connectors");
        }
        needRoom();
        int connector = parts.makeConnector(shape, side, other, otherSide);
        who.step(JOINED + connector, 1.0f);
        return connector;
    }

    public int disconnect(int user, int connector)
            throws IllegalArgumentException, NoSuchElementException, IllegalStateException {
        User who = needUser(user);
        needSeenConnector(who, connector);
        needRoom();
        who.step(JOINED + connector, 0.0f);
        return who.view.countConnectors();
    }

    public int vote(int user, int shape, int count) throws IllegalArgumentException, NoSuchElementException,
            UnsupportedOperationException, IllegalStateException {
        User who = needUser(user);
        if (count < 0 || count > MOST_VOTES_FOR_ONE) {
            throw new IllegalArgumentException("0 to 3 votes");
        }
        needSeen(who, shape);
        int before = who.view.votesBy(user, shape);
        if (who.view.areVotesShown() || who.view.allVotesBy(user) - before + count > MOST_VOTES_OF_ONE) {
            throw new UnsupportedOperationException("votes are shown, or would be more than 5");
        }
        needRoom();
        who.step(voteField(user, shape), count);
        return before;
    }

    public boolean show(int user, boolean areShown) throws IllegalArgumentException, IllegalStateException {
        User who = needUser(user);
        needRoom();
        boolean wereShown = who.view.areVotesShown();
        who.step(SHOWN, areShown ? 1.0f : 0.0f);
        return wereShown;
    }

    public int takeBack(int user) throws IllegalArgumentException, NoSuchElementException, IllegalStateException {
        User who = needUser(user);
        int step = log.lastOpenStepOf(user);
        if (step == NONE) {
            throw new NoSuchElementException("no step to take back");
        }
        needRoom();
        return who.undo(step);
    }

    public int deliver(int user, int operation)
            throws IllegalArgumentException, NoSuchElementException, IllegalStateException {
        User who = needUser(user);
        needOperation(operation);
        if (who.isKnown(operation)) {
            throw new IllegalStateException("the user knows the operation");
        }
        who.learn(operation);
        return who.knownCount;
    }

    public int sync(int user, int other) throws IllegalArgumentException {
        User one = needUser(user);
        User two = needUser(other);
        if (user == other) {
            throw new IllegalArgumentException("both users are the same");
        }
        int deliveries = 0;
        for (int operation = 0; operation < log.count; operation++) {
            if (one.isKnown(operation) != two.isKnown(operation)) {
                User learner = one.isKnown(operation) ? two : one;
                learner.learn(operation);
                deliveries++;
            }
        }
        return deliveries;
    }

    public int operations() {
        return log.count;
    }

    public int userOf(int operation) throws NoSuchElementException {
        needOperation(operation);
        return log.userAt(operation);
    }

    public int clockOf(int operation) throws NoSuchElementException {
        needOperation(operation);
        return log.clockAt(operation);
    }

    public boolean knows(int user, int operation) throws IllegalArgumentException, NoSuchElementException {
        User who = needUser(user);
        needOperation(operation);
        return who.isKnown(operation);
    }

    public int shapes(int user) throws IllegalArgumentException {
        return needUser(user).view.countShapes();
    }

    public boolean sees(int user, int shape) throws IllegalArgumentException {
        return needUser(user).view.isSeen(shape);
    }

    public int columnOf(int user, int shape) throws IllegalArgumentException, NoSuchElementException {
        return needView(user, shape).columnAt(shape);
    }

    public int rowOf(int user, int shape) throws IllegalArgumentException, NoSuchElementException {
        return needView(user, shape).rowAt(shape);
    }

    public int rankOf(int user, int shape) throws IllegalArgumentException, NoSuchElementException {
        return needView(user, shape).rankAt(shape);
    }

    public int shapeAt(int user, int rank) throws IllegalArgumentException, IndexOutOfBoundsException {
        int shape = needUser(user).view.shapeWithRank(rank);
        if (shape == NONE) {
            throw new IndexOutOfBoundsException("no such rank");
        }
        return shape;
    }

    public float keyOf(int user, int shape) throws IllegalArgumentException, NoSuchElementException {
        return needView(user, shape).keyAt(shape);
    }

    public int keyBits(int user, int shape) throws IllegalArgumentException, NoSuchElementException {
        return bitsOf(needView(user, shape).keyAt(shape));
    }

    public int keyCut(int user, int shape) throws IllegalArgumentException, NoSuchElementException {
        return (int) (needView(user, shape).keyAt(shape) * 8.0f);
    }

    public int topAt(int user, int column, int row) throws IllegalArgumentException, NoSuchElementException {
        User who = needUser(user);
        if (cellAt(column, row) == NONE) {
            throw new IllegalArgumentException("no such cell");
        }
        int shape = who.view.topOn(column, row);
        if (shape == NONE) {
            throw new NoSuchElementException("no shape covers the cell");
        }
        return shape;
    }

    public int lockedBy(int user, int shape) throws IllegalArgumentException, NoSuchElementException {
        return needView(user, shape).lockerAt(shape);
    }

    public int inside(int user, int shape) throws IllegalArgumentException, NoSuchElementException {
        return needView(user, shape).countCovered(shape);
    }

    public int connectors(int user) throws IllegalArgumentException {
        return needUser(user).view.countConnectors();
    }

    public int bends(int user, int connector)
            throws IllegalArgumentException, NoSuchElementException, UnsupportedOperationException {
        needMap(user, connector);
        return needWay(router.fewestTurns());
    }

    public int bendsByRounds(int user, int connector)
            throws IllegalArgumentException, NoSuchElementException, UnsupportedOperationException {
        needMap(user, connector);
        return needWay(router.fewestTurnsByRounds());
    }

    public int routeLength(int user, int connector)
            throws IllegalArgumentException, NoSuchElementException, UnsupportedOperationException {
        needMap(user, connector);
        return needWay(router.fewestCells());
    }

    public int ownVotes(int user, int shape) throws IllegalArgumentException, NoSuchElementException {
        return needView(user, shape).votesBy(user, shape);
    }

    public int votesFor(int user, int shape)
            throws IllegalArgumentException, NoSuchElementException, UnsupportedOperationException {
        View view = needView(user, shape);
        needShown(view);
        return view.allVotesFor(shape);
    }

    public int winner(int user)
            throws IllegalArgumentException, UnsupportedOperationException, NoSuchElementException {
        View view = needUser(user).view;
        needShown(view);
        int shape = view.mostVoted();
        if (shape == NONE) {
            throw new NoSuchElementException("no shape has votes");
        }
        return shape;
    }

    public int outcome(int user) throws IllegalArgumentException {
        return needUser(user).view.sumUp();
    }

    public int outcomeAnew(int user) throws IllegalArgumentException {
        return replay.sumUpAnew(needUser(user));
    }

    public int outcomes(int user, int many) throws IllegalArgumentException {
        User who = needUser(user);
        if (many < 0 || many > MOST_MIXED) {
            throw new IllegalArgumentException("0 to 4 operations");
        }
        return replay.countDifferent(who, many);
    }

    public boolean areAlike(int user, int other) throws IllegalArgumentException {
        User one = needUser(user);
        User two = needUser(other);
        return one.board.hasSameValues(two.board);
    }

    public float frameShare(int user) throws IllegalArgumentException, ArithmeticException {
        View view = needUser(user).view;
        int all = view.countShapes();
        if (all == 0) {
            throw new ArithmeticException("the user sees no shapes");
        }
        return (float) view.countFrames() / (float) all;
    }

    public double meanRoute(int user) throws IllegalArgumentException, ArithmeticException {
        View view = needUser(user).view;
        int sum = 0;
        int ways = 0;
        for (int connector = 0; connector < CONNECTORS; connector++) {
            if (view.isSeenConnector(connector)) {
                router.draw(view, connector);
                int cells = router.fewestCells();
                if (cells != NONE) {
                    sum += cells;
                    ways++;
                }
            }
        }
        if (ways == 0) {
            throw new ArithmeticException("no connector has a way");
        }
        return (double) sum / (double) ways;
    }

    public long area(int user) throws IllegalArgumentException {
        return needUser(user).view.sumOfAreas();
    }

    private User needUser(int user) {
        User who = user >= 0 && user < users.length ? users[user] : null;
        if (who == null) {
            throw new IllegalArgumentException("no such user");
        }
        return who;
    }

    private View needView(int user, int shape) {
        User who = needUser(user);
        needSeen(who, shape);
        return who.view;
    }

    private void needMap(int user, int connector) {
        User who = needUser(user);
        needSeenConnector(who, connector);
        router.draw(who.view, connector);
    }

    private void needRoom() {
        if (log.isFull()) {
            throw new IllegalStateException("there are 250 operations");
        }
    }

    private void needOperation(int operation) {
        if (operation < 0 || operation >= log.count) {
            throw new NoSuchElementException("no such operation");
        }
    }

    private static void needSeen(User who, int shape) {
        if (!who.view.isSeen(shape)) {
            throw new NoSuchElementException("the user does not see such a shape");
        }
    }

    private static void needChangeable(User who, int shape) {
        needSeen(who, shape);
        if (who.view.isLockedByOther(who.number, shape)) {
            throw new UnsupportedOperationException("another user has locked the shape");
        }
    }

    private static void needSeenConnector(User who, int connector) {
        if (!who.view.isSeenConnector(connector)) {
            throw new NoSuchElementException("the user does not see such a connector");
        }
    }

    private static void needShown(View view) {
        if (!view.areVotesShown()) {
            throw new UnsupportedOperationException("votes are not shown");
        }
    }

    private static int needWay(int found) {
        if (found == NONE) {
            throw new UnsupportedOperationException("there is no way");
        }
        return found;
    }

    private static int giveKey(User who, int shape, float key) {
        who.step(KEY + shape, key);
        return who.view.rankAt(shape);
    }

    private static float keyAbove(View view, int other) {
        float low = view.keyAt(other);
        int next = view.nextAbove(low);
        if (next == NONE) {
            return low + 1.0f;
        }
        float high = view.keyAt(next);
        float key = (low + high) / 2.0f;
        if (key == low || key == high) {
            throw new UnsupportedOperationException("no key lies between");
        }
        return key;
    }

    private int carry(User who, int shape, int cell) {
        View view = who.view;
        // What a frame covers stays on the board with it, so the numbers of all cells change by as much.
        int by = cell - view.cellUnder(shape);
        int moved = 0;
        who.begin(true);
        for (int other = 0; other < SHAPES; other++) {
            if (other == shape || parts.isFrameAt(shape) && view.isCarried(who.number, shape, other)) {
                who.write(PLACE + other, view.cellUnder(other) + by);
                moved++;
            }
        }
        who.end();
        return moved;
    }

    private static boolean isSide(int length) {
        return length >= 1 && length <= LONGEST_SIDE;
    }

    private static boolean isSideName(char side) {
        return side == 't' || side == 'b' || side == 'l' || side == 'r';
    }

    private static boolean fits(int column, int row, int width, int height) {
        return column >= 0 && column <= COLUMNS - width && row >= 0 && row <= ROWS - height;
    }

    private static int cellAt(int column, int row) {
        return column >= 0 && column < COLUMNS && row >= 0 && row < ROWS ? row * COLUMNS + column : NONE;
    }

    private static int voteField(int user, int shape) {
        return VOTES + user * SHAPES + shape;
    }

    // Half of the sum of two of the smallest keys can be -0.0f, which only a division tells from 0.0f.
    private static boolean isNegativeZero(float number) {
        return number == 0.0f && 1.0f / number < 0.0f;
    }

    // In the order of the shapes -0.0f and 0.0f are equal, but they are two values of a key, with bits of their own.
    private static boolean isSameValue(float one, float other) {
        return one == other && isNegativeZero(one) == isNegativeZero(other);
    }

    // LANGUAGE.md leaves Float.floatToIntBits out.
    private static int bitsOf(float key) {
        if (key == 0.0f) {
            return isNegativeZero(key) ? SIGN_BIT : 0;
        }
        int sign = key < 0.0f ? SIGN_BIT : 0;
        double rest = key < 0.0f ? -((double) key) : (double) key;
        int exponent = 0;
        for (int i = 0; i < 128 && rest >= 2.0; i++) {
            rest = rest / 2.0;
            exponent++;
        }
        for (int i = 0; i < 149 && rest < 1.0; i++) {
            rest = rest * 2.0;
            exponent--;
        }
        if (exponent < -126) {
            return sign | (int) (rest * (double) (1 << (exponent + 149)));
        }
        return sign | (exponent + 127) << 23 | (int) ((rest - 1.0) * 8388608.0);
    }

    private static int intAt(int[] row, int index, int otherwise) {
        return index >= 0 && index < row.length ? row[index] : otherwise;
    }

    private static float floatAt(float[] row, int index) {
        return index >= 0 && index < row.length ? row[index] : 0.0f;
    }

    private static boolean isAt(boolean[] row, int index) {
        return index >= 0 && index < row.length && row[index];
    }

    /** What shapes and connectors are from when they are added, for all users. */
    private static final class Parts {
        final int[] width = new int[SHAPES];
        final int[] height = new int[SHAPES];
        final boolean[] isFrame = new boolean[SHAPES];
        final int[] shape = new int[CONNECTORS];
        final int[] other = new int[CONNECTORS];
        final char[] side = new char[CONNECTORS];
        final char[] otherSide = new char[CONNECTORS];
        int shapeCount;
        int connectorCount;

        int makeShape(int itsWidth, int itsHeight, boolean isItFrame) {
            int made = shapeCount;
            if (made >= 0 && made < SHAPES) {
                width[made] = itsWidth;
                height[made] = itsHeight;
                isFrame[made] = isItFrame;
                shapeCount++;
            }
            return made;
        }

        int makeConnector(int itsShape, char itsSide, int itsOther, char itsOtherSide) {
            int made = connectorCount;
            if (made >= 0 && made < CONNECTORS) {
                shape[made] = itsShape;
                side[made] = itsSide;
                other[made] = itsOther;
                otherSide[made] = itsOtherSide;
                connectorCount++;
            }
            return made;
        }

        boolean hasShape(int number) {
            return number >= 0 && number < shapeCount;
        }

        boolean hasConnector(int number) {
            return number >= 0 && number < connectorCount;
        }

        int widthAt(int number) {
            return intAt(width, number, 1);
        }

        int heightAt(int number) {
            return intAt(height, number, 1);
        }

        boolean isFrameAt(int number) {
            return isAt(isFrame, number);
        }

        int shapeOfEnd(int connector, boolean isFirst) {
            return intAt(isFirst ? shape : other, connector, NONE);
        }

        char sideOfEnd(int connector, boolean isFirst) {
            char[] row = isFirst ? side : otherSide;
            return connector >= 0 && connector < row.length ? row[connector] : 't';
        }
    }

    /** All operations, with the rows of what they write: a field, its value, and the step that it stems from. */
    private static final class Log {
        final int[] user = new int[OPERATIONS];
        final int[] clock = new int[OPERATIONS];
        final boolean[] isOpenStep = new boolean[OPERATIONS];
        final int[] firstRow = new int[OPERATIONS];
        final int[] endRow = new int[OPERATIONS];
        final int[] byTime = new int[OPERATIONS];
        final int[] field = new int[WRITES];
        final float[] value = new float[WRITES];
        final int[] stem = new int[WRITES];
        final float[] valueAhead = new float[WRITES];
        final int[] stemAhead = new int[WRITES];
        int count;
        int rows;

        boolean isFull() {
            return count >= OPERATIONS;
        }

        int open(int itsUser, int itsClock, boolean isStep) {
            int operation = count;
            if (operation < 0 || operation >= OPERATIONS) {
                return NONE;
            }
            user[operation] = itsUser;
            clock[operation] = itsClock;
            isOpenStep[operation] = isStep;
            firstRow[operation] = rows;
            endRow[operation] = rows;
            count++;
            fileByTime(operation);
            return operation;
        }

        private void fileByTime(int operation) {
            int place = count - 1;
            for (int i = count - 2; i >= 0 && i + 1 < OPERATIONS; i--) {
                if (!isLater(byTime[i], operation)) {
                    break;
                }
                byTime[i + 1] = byTime[i];
                place = i;
            }
            if (place >= 0 && place < OPERATIONS) {
                byTime[place] = operation;
            }
        }

        /** Adds a row to the newest operation. */
        void add(int itsField, float itsValue, int itsStem) {
            int newest = count - 1;
            if (rows >= 0 && rows < WRITES && newest >= 0 && newest < OPERATIONS) {
                field[rows] = itsField;
                value[rows] = itsValue;
                stem[rows] = itsStem;
                rows++;
                endRow[newest] = rows;
            }
        }

        /** Keeps with the newest row what the field had ahead of it, for taking it back. */
        void remember(float itsValueAhead, int itsStemAhead) {
            int row = rows - 1;
            if (row >= 0 && row < WRITES) {
                valueAhead[row] = itsValueAhead;
                stemAhead[row] = itsStemAhead;
            }
        }

        /** Whether an operation is later than another one; than NONE, each one is. */
        boolean isLater(int operation, int than) {
            if (operation < 0 || operation >= OPERATIONS) {
                return false;
            }
            if (than < 0 || than >= OPERATIONS) {
                return true;
            }
            int difference = clock[operation] - clock[than];
            return difference > 0 || difference == 0 && user[operation] > user[than];
        }

        int lastOpenStepOf(int itsUser) {
            for (int operation = count - 1; operation >= 0; operation--) {
                if (isAt(isOpenStep, operation) && userAt(operation) == itsUser) {
                    return operation;
                }
            }
            return NONE;
        }

        void close(int step) {
            if (step >= 0 && step < OPERATIONS) {
                isOpenStep[step] = false;
            }
        }

        int userAt(int operation) {
            return intAt(user, operation, NONE);
        }

        int clockAt(int operation) {
            return intAt(clock, operation, 0);
        }

        int operationAtTime(int place) {
            return intAt(byTime, place, NONE);
        }

        int firstRowOf(int operation) {
            return operation >= 0 && operation < OPERATIONS ? firstRow[operation] : 0;
        }

        int endRowOf(int operation) {
            return operation >= 0 && operation < OPERATIONS ? endRow[operation] : 0;
        }
    }

    /** The fields of one board. Values are floats, as keys are; all others are small whole numbers. */
    private static final class Board {
        final Log log;
        final float[] value = new float[FIELDS];
        final int[] stem = new int[FIELDS];
        final int[] writer = new int[FIELDS];

        Board(Log log) {
            this.log = log;
            for (int field = 0; field < FIELDS; field++) {
                stem[field] = NONE;
                writer[field] = NONE;
            }
        }

        void empty() {
            for (int field = 0; field < FIELDS; field++) {
                value[field] = 0.0f;
                stem[field] = NONE;
                writer[field] = NONE;
            }
        }

        void copy(Board from) {
            for (int field = 0; field < FIELDS; field++) {
                value[field] = from.value[field];
                stem[field] = from.stem[field];
                writer[field] = from.writer[field];
            }
        }

        void take(int operation) {
            int end = log.endRowOf(operation);
            for (int row = log.firstRowOf(operation); row < end; row++) {
                int field = intAt(log.field, row, NONE);
                if (field >= 0 && field < FIELDS && log.isLater(operation, writer[field])) {
                    value[field] = floatAt(log.value, row);
                    stem[field] = intAt(log.stem, row, NONE);
                    writer[field] = operation;
                }
            }
        }

        float valueAt(int field) {
            return field >= 0 && field < FIELDS ? value[field] : 0.0f;
        }

        int stemAt(int field) {
            return field >= 0 && field < FIELDS ? stem[field] : NONE;
        }

        boolean hasSameValues(Board other) {
            for (int field = 0; field < FIELDS; field++) {
                if (!isSameValue(value[field], other.value[field])) {
                    return false;
                }
            }
            return true;
        }
    }

    /** What is to be seen on a board. */
    private static final class View {
        final Board board;
        final Parts parts;

        View(Board board, Parts parts) {
            this.board = board;
            this.parts = parts;
        }

        boolean isSeen(int shape) {
            return parts.hasShape(shape) && board.valueAt(THERE + shape) != 0.0f;
        }

        int countShapes() {
            int count = 0;
            for (int shape = 0; shape < SHAPES; shape++) {
                if (isSeen(shape)) {
                    count++;
                }
            }
            return count;
        }

        int countFrames() {
            int count = 0;
            for (int shape = 0; shape < SHAPES; shape++) {
                if (isSeen(shape) && parts.isFrameAt(shape)) {
                    count++;
                }
            }
            return count;
        }

        long sumOfAreas() {
            long sum = 0;
            for (int shape = 0; shape < SHAPES; shape++) {
                if (isSeen(shape)) {
                    sum += (long) parts.widthAt(shape) * parts.heightAt(shape);
                }
            }
            return sum;
        }

        int cellUnder(int shape) {
            return (int) board.valueAt(PLACE + shape);
        }

        int columnAt(int shape) {
            return (int) board.valueAt(PLACE + shape) % COLUMNS;
        }

        int rowAt(int shape) {
            return (int) board.valueAt(PLACE + shape) / COLUMNS;
        }

        float keyAt(int shape) {
            return board.valueAt(KEY + shape);
        }

        float greatestKey() {
            int top = shapeWithRank(countShapes() - 1);
            return top == NONE ? 0.0f : keyAt(top);
        }

        float lowestKey() {
            int bottom = shapeWithRank(0);
            return bottom == NONE ? 0.0f : keyAt(bottom);
        }

        /** The shape with the lowest key above a key, or NONE. */
        int nextAbove(float key) {
            int next = NONE;
            for (int shape = 0; shape < SHAPES; shape++) {
                if (isSeen(shape) && keyAt(shape) > key && (next == NONE || keyAt(shape) < keyAt(next))) {
                    next = shape;
                }
            }
            return next;
        }

        boolean isBelow(int shape, int other) {
            float key = keyAt(shape);
            float otherKey = keyAt(other);
            return key < otherKey || key == otherKey && shape < other;
        }

        int rankAt(int shape) {
            int rank = 0;
            for (int other = 0; other < SHAPES; other++) {
                if (isSeen(other) && isBelow(other, shape)) {
                    rank++;
                }
            }
            return rank;
        }

        int shapeWithRank(int rank) {
            for (int shape = 0; shape < SHAPES; shape++) {
                if (isSeen(shape) && rankAt(shape) == rank) {
                    return shape;
                }
            }
            return NONE;
        }

        boolean isOver(int shape, int column, int row) {
            int right = column - columnAt(shape);
            int down = row - rowAt(shape);
            return right >= 0 && right < parts.widthAt(shape) && down >= 0 && down < parts.heightAt(shape);
        }

        boolean covers(int shape, int other) {
            int lastColumn = columnAt(other) + parts.widthAt(other) - 1;
            int lastRow = rowAt(other) + parts.heightAt(other) - 1;
            return isOver(shape, columnAt(other), rowAt(other)) && isOver(shape, lastColumn, lastRow);
        }

        int countCovered(int shape) {
            int count = 0;
            for (int other = 0; other < SHAPES; other++) {
                if (other != shape && isSeen(other) && covers(shape, other)) {
                    count++;
                }
            }
            return count;
        }

        boolean isCarried(int user, int frame, int other) {
            return isSeen(other) && covers(frame, other) && !isLockedByOther(user, other);
        }

        int topOn(int column, int row) {
            int top = NONE;
            for (int shape = 0; shape < SHAPES; shape++) {
                if (isSeen(shape) && !parts.isFrameAt(shape) && isOver(shape, column, row)
                        && (top == NONE || isBelow(top, shape))) {
                    top = shape;
                }
            }
            return top;
        }

        int lockerAt(int shape) {
            return (int) board.valueAt(LOCK + shape) - 1;
        }

        boolean isLockedByOther(int user, int shape) {
            int locker = lockerAt(shape);
            return locker != NONE && locker != user;
        }

        int countLockedBy(int user) {
            int count = 0;
            for (int shape = 0; shape < SHAPES; shape++) {
                if (isSeen(shape) && lockerAt(shape) == user) {
                    count++;
                }
            }
            return count;
        }

        boolean isSeenConnector(int connector) {
            return parts.hasConnector(connector) && board.valueAt(JOINED + connector) != 0.0f
                    && isSeen(parts.shapeOfEnd(connector, true)) && isSeen(parts.shapeOfEnd(connector, false));
        }

        int countConnectors() {
            int count = 0;
            for (int connector = 0; connector < CONNECTORS; connector++) {
                if (isSeenConnector(connector)) {
                    count++;
                }
            }
            return count;
        }

        /** The cell beside the side that a connector sticks to, or NONE if it lies beyond the board. */
        int endOf(int connector, boolean isFirst) {
            int shape = parts.shapeOfEnd(connector, isFirst);
            int column = columnAt(shape);
            int row = rowAt(shape);
            int width = parts.widthAt(shape);
            int height = parts.heightAt(shape);
            char side = parts.sideOfEnd(connector, isFirst);
            if (side == 't') {
                return cellAt(column + (width - 1) / 2, row - 1);
            }
            if (side == 'b') {
                return cellAt(column + (width - 1) / 2, row + height);
            }
            int middle = row + (height - 1) / 2;
            return side == 'l' ? cellAt(column - 1, middle) : cellAt(column + width, middle);
        }

        boolean areVotesShown() {
            return board.valueAt(SHOWN) != 0.0f;
        }

        int votesBy(int user, int shape) {
            return (int) board.valueAt(voteField(user, shape));
        }

        int allVotesBy(int user) {
            int sum = 0;
            for (int shape = 0; shape < SHAPES; shape++) {
                sum += votesBy(user, shape);
            }
            return sum;
        }

        int allVotesFor(int shape) {
            int sum = 0;
            for (int user = 0; user < USERS; user++) {
                sum += votesBy(user, shape);
            }
            return sum;
        }

        int mostVoted() {
            int best = NONE;
            int most = 0;
            for (int shape = 0; shape < SHAPES; shape++) {
                if (isSeen(shape) && allVotesFor(shape) > most) {
                    best = shape;
                    most = allVotesFor(shape);
                }
            }
            return best;
        }

        /** The outcome of the board. */
        int sumUp() {
            int sum = 0;
            for (int shape = 0; shape < SHAPES; shape++) {
                if (isSeen(shape)) {
                    sum = join(sum, shape);
                    sum = join(sum, columnAt(shape));
                    sum = join(sum, rowAt(shape));
                    sum = join(sum, rankAt(shape));
                }
            }
            return sum;
        }

        private static int join(int sum, int number) {
            return (sum * 31 + number + 1) % 1000003;
        }
    }

    /** A user: the own board, the operations that are known, and the one that is being made. */
    private static final class User {
        final int number;
        final Log log;
        final Board board;
        final View view;
        final boolean[] known = new boolean[OPERATIONS];
        int knownCount;
        int greatestClock;
        int newest = NONE;

        User(int number, Log log, Parts parts) {
            this.number = number;
            this.log = log;
            this.board = new Board(log);
            this.view = new View(board, parts);
        }

        boolean isKnown(int operation) {
            return isAt(known, operation);
        }

        void learn(int operation) {
            if (operation < 0 || operation >= OPERATIONS) {
                return;
            }
            known[operation] = true;
            knownCount++;
            greatestClock = Math.max(greatestClock, log.clockAt(operation));
            board.take(operation);
        }

        void begin(boolean isStep) {
            newest = log.open(number, greatestClock + 1, isStep);
        }

        void write(int field, float value) {
            log.add(field, value, newest);
            log.remember(board.valueAt(field), board.stemAt(field));
        }

        /** Only now the own board changes: all that a step writes is found on the board ahead of it. */
        void end() {
            learn(newest);
        }

        void step(int field, float value) {
            begin(true);
            write(field, value);
            end();
        }

        int undo(int step) {
            int written = 0;
            log.close(step);
            begin(false);
            int end = log.endRowOf(step);
            for (int row = log.firstRowOf(step); row < end; row++) {
                int field = intAt(log.field, row, NONE);
                if (board.stemAt(field) == step) {
                    log.add(field, floatAt(log.valueAhead, row), intAt(log.stemAhead, row, NONE));
                    written++;
                }
            }
            end();
            return written;
        }
    }

    /** Finds outcomes anew, on boards of its own that are emptied and used again. */
    private static final class Replay {
        final Log log;
        final Board start;
        final Board board;
        final View view;
        final int[] known = new int[OPERATIONS];
        final int[] mixed = new int[MOST_MIXED];
        final int[] found = new int[MOST_ORDERS];
        int knownCount;

        Replay(Log log, Parts parts) {
            this.log = log;
            this.start = new Board(log);
            this.board = new Board(log);
            this.view = new View(board, parts);
        }

        int sumUpAnew(User user) {
            listKnown(user);
            board.empty();
            for (int i = 0; i < knownCount; i++) {
                board.take(intAt(known, i, NONE));
            }
            return view.sumUp();
        }

        int countDifferent(User user, int many) {
            listKnown(user);
            int count = Math.min(many, knownCount);
            start.empty();
            for (int i = 0; i < knownCount - count; i++) {
                start.take(intAt(known, i, NONE));
            }
            int orders = 1;
            for (int i = 2; i <= count; i++) {
                orders *= i;
            }
            int different = 0;
            for (int order = 0; order < orders; order++) {
                board.copy(start);
                mix(order, count);
                different = collect(different, view.sumUp());
            }
            return different;
        }

        /** Lists what a user knows, the earliest first. */
        private void listKnown(User user) {
            knownCount = 0;
            for (int place = 0; place < log.count; place++) {
                int operation = log.operationAtTime(place);
                if (user.isKnown(operation) && knownCount < OPERATIONS) {
                    known[knownCount] = operation;
                    knownCount++;
                }
            }
        }

        /**
         * Delivers the latest operations in one of their orders. Its number tells, digit by digit, which of those
         * that are left comes next.
         */
        private void mix(int order, int count) {
            for (int i = 0; i < count && i < MOST_MIXED; i++) {
                mixed[i] = intAt(known, knownCount - count + i, NONE);
            }
            int digits = order;
            for (int left = Math.min(count, MOST_MIXED); left >= 1; left--) {
                int next = Math.floorMod(digits, left);
                digits = digits / left;
                if (next >= 0 && next < MOST_MIXED && left <= MOST_MIXED) {
                    board.take(mixed[next]);
                    mixed[next] = mixed[left - 1];
                }
            }
        }

        private int collect(int different, int sum) {
            for (int i = 0; i < different && i < MOST_ORDERS; i++) {
                if (found[i] == sum) {
                    return different;
                }
            }
            if (different >= 0 && different < MOST_ORDERS) {
                found[different] = sum;
            }
            return different + 1;
        }
    }

    /**
     * Finds the route of a connector. A spot is a cell together with how a way came into it: along a row or along
     * a column. Going back where it came from counts no bend here; it never helps, for leaving both steps out
     * makes a way shorter and gives it no more bends, so no best way does it.
     */
    private static final class Router {
        private static final int SPOTS = CELLS * 2;
        private static final int DIRECTIONS = 4;
        private static final int UNREACHED = 1000000;

        final boolean[] isFree = new boolean[CELLS];
        final int[] turns = new int[SPOTS];
        final int[] cells = new int[SPOTS];
        int[] here = new int[SPOTS];
        int[] later = new int[SPOTS];
        int hereCount;
        int laterCount;
        int from = NONE;
        int to = NONE;

        /** Marks the cells that are free, and the ends of a connector. */
        void draw(View view, int connector) {
            for (int cell = 0; cell < CELLS; cell++) {
                isFree[cell] = true;
            }
            for (int shape = 0; shape < SHAPES; shape++) {
                if (view.isSeen(shape) && !view.parts.isFrameAt(shape)) {
                    block(view, shape);
                }
            }
            from = view.endOf(connector, true);
            to = view.endOf(connector, false);
        }

        private void block(View view, int shape) {
            int width = view.parts.widthAt(shape);
            int height = view.parts.heightAt(shape);
            for (int right = 0; right < width; right++) {
                for (int down = 0; down < height; down++) {
                    int cell = cellAt(view.columnAt(shape) + right, view.rowAt(shape) + down);
                    if (cell >= 0 && cell < CELLS) {
                        isFree[cell] = false;
                    }
                }
            }
        }

        /** Goes on from the spots that are reached, those with fewer bends first. */
        int fewestTurns() {
            if (!isAt(isFree, from) || !isAt(isFree, to)) {
                return NONE;
            }
            startAnew();
            hereCount = 0;
            laterCount = 0;
            pushHere(from * 2);
            pushHere(from * 2 + 1);
            for (int many = 0; many < SPOTS && hereCount > 0; many++) {
                for (int i = 0; i < hereCount && i < SPOTS; i++) {
                    goOn(here[i], many);
                }
                if (turnsAtEnd() == many) {
                    return many;
                }
                turnPage();
            }
            return NONE;
        }

        private void startAnew() {
            for (int spot = 0; spot < SPOTS; spot++) {
                turns[spot] = UNREACHED;
            }
            if (from >= 0 && from < CELLS) {
                turns[from * 2] = 0;
                turns[from * 2 + 1] = 0;
            }
        }

        private int turnsAtEnd() {
            return Math.min(intAt(turns, to * 2, UNREACHED), intAt(turns, to * 2 + 1, UNREACHED));
        }

        private void turnPage() {
            int[] page = here;
            here = later;
            hereCount = laterCount;
            later = page;
            laterCount = 0;
        }

        private void pushHere(int spot) {
            if (hereCount >= 0 && hereCount < here.length) {
                here[hereCount] = spot;
                hereCount++;
            }
        }

        private void pushLater(int spot) {
            if (laterCount >= 0 && laterCount < later.length) {
                later[laterCount] = spot;
                laterCount++;
            }
        }

        private void goOn(int spot, int many) {
            if (intAt(turns, spot, UNREACHED) != many) {
                return;
            }
            for (int direction = 0; direction < DIRECTIONS; direction++) {
                int next = spotBeside(spot / 2, direction);
                int needed = next % 2 == spot % 2 ? many : many + 1;
                if (next >= 0 && next < SPOTS && needed < turns[next]) {
                    turns[next] = needed;
                    if (needed == many) {
                        pushHere(next);
                    } else {
                        pushLater(next);
                    }
                }
            }
        }

        /** The spot that is come to from a cell, if the cell beside it is free: 0 and 1 go along the row. */
        private int spotBeside(int cell, int direction) {
            int beside = cellBeside(cell, direction);
            return isAt(isFree, beside) ? beside * 2 + direction / 2 : NONE;
        }

        private static int cellBeside(int cell, int direction) {
            int column = cell % COLUMNS;
            int row = cell / COLUMNS;
            switch (direction) {
                case 0:
                    return cellAt(column - 1, row);
                case 1:
                    return cellAt(column + 1, row);
                case 2:
                    return cellAt(column, row - 1);
                default:
                    return cellAt(column, row + 1);
            }
        }

        int fewestTurnsByRounds() {
            if (!isAt(isFree, from) || !isAt(isFree, to)) {
                return NONE;
            }
            startAnew();
            boolean isChanged = true;
            for (int round = 0; round < SPOTS && isChanged; round++) {
                isChanged = false;
                for (int cell = 0; cell < CELLS; cell++) {
                    if (isFree[cell] && improve(cell)) {
                        isChanged = true;
                    }
                }
            }
            return turnsAtEnd() < UNREACHED ? turnsAtEnd() : NONE;
        }

        private boolean improve(int cell) {
            boolean isImproved = false;
            for (int direction = 0; direction < DIRECTIONS; direction++) {
                int beside = cellBeside(cell, direction);
                int axis = direction / 2;
                int spot = cell * 2 + axis;
                if (isAt(isFree, beside) && spot >= 0 && spot < SPOTS) {
                    int straight = intAt(turns, beside * 2 + axis, UNREACHED);
                    int turned = intAt(turns, beside * 2 + 1 - axis, UNREACHED) + 1;
                    int best = Math.min(straight, turned);
                    if (best < turns[spot]) {
                        turns[spot] = best;
                        isImproved = true;
                    }
                }
            }
            return isImproved;
        }

        /** Goes on once more, now in steps of one cell, and only where no bend is wasted. */
        int fewestCells() {
            int many = fewestTurns();
            if (many == NONE) {
                return NONE;
            }
            for (int spot = 0; spot < SPOTS; spot++) {
                cells[spot] = 0;
            }
            hereCount = 0;
            count(from * 2, 1);
            count(from * 2 + 1, 1);
            for (int i = 0; i < hereCount && i < SPOTS; i++) {
                int spot = here[i];
                if (spot / 2 == to && intAt(turns, spot, UNREACHED) == many) {
                    return intAt(cells, spot, NONE);
                }
                countOn(spot);
            }
            return NONE;
        }

        private void countOn(int spot) {
            int many = intAt(turns, spot, UNREACHED);
            int length = intAt(cells, spot, 0);
            for (int direction = 0; direction < DIRECTIONS; direction++) {
                int next = spotBeside(spot / 2, direction);
                int needed = next % 2 == spot % 2 ? many : many + 1;
                if (intAt(turns, next, UNREACHED) == needed) {
                    count(next, length + 1);
                }
            }
        }

        private void count(int spot, int length) {
            if (spot >= 0 && spot < SPOTS && cells[spot] == 0) {
                cells[spot] = length;
                pushHere(spot);
            }
        }
    }
}
