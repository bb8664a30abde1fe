import java.util.ArrayList;
import java.util.HashMap;
import java.util.HashSet;
import java.util.List;
import java.util.Map;
import java.util.NoSuchElementException;
import java.util.PriorityQueue;
import java.util.Set;
import java.util.TreeMap;

/**
 * The document in its slowest form, for comparison: a board is found anew for every answer from all operations
 * that its user knows, fields have names, and routes are searched with all four directions.
 */
final class Model {
    private record Write(Object value, int stem, Object ahead, int stemAhead) {
    }

    private static final class Op {
        int number;
        int user;
        int clock;
        boolean isStep;
        boolean isTakenBack;
        final Map<String, Write> writes = new TreeMap<>();
    }

    private record Place(int column, int row) {
    }

    private record Size(int width, int height, boolean isFrame) {
    }

    private record Joint(int shape, char side, int other, char otherSide) {
    }

    private final List<Op> ops = new ArrayList<>();
    private final List<Size> sizes = new ArrayList<>();
    private final List<Joint> joints = new ArrayList<>();
    private final List<Set<Integer>> known = List.of(new HashSet<>(), new HashSet<>(), new HashSet<>());

    // The board of a user, anew.

    private List<Op> inTime(int user) {
        List<Op> list = new ArrayList<>();
        for (int number : known.get(user)) {
            list.add(ops.get(number));
        }
        list.sort((a, b) -> a.clock != b.clock ? a.clock - b.clock : a.user - b.user);
        return list;
    }

    private Map<String, Write> fields(int user) {
        Map<String, Write> result = new HashMap<>();
        for (Op op : inTime(user)) {
            result.putAll(op.writes);
        }
        return result;
    }

    private Object first(String field) {
        return switch (field.charAt(0)) {
            case 't', 'c', 'w' -> Boolean.FALSE;
            case 'p' -> new Place(0, 0);
            case 'k' -> 0.0f;
            case 'l' -> -1;
            default -> 0;
        };
    }

    private Object value(Map<String, Write> fields, String field) {
        Write write = fields.get(field);
        return write == null ? first(field) : write.value;
    }

    private int stem(Map<String, Write> fields, String field) {
        Write write = fields.get(field);
        return write == null ? -1 : write.stem;
    }

    private Object get(int user, String field) {
        return value(fields(user), field);
    }

    private int operation(int user, boolean isStep, Object... fieldsAndValues) {
        Map<String, Write> board = fields(user);
        Op op = new Op();
        op.number = ops.size();
        op.user = user;
        op.isStep = isStep;
        op.clock = 1;
        for (int number : known.get(user)) {
            op.clock = Math.max(op.clock, ops.get(number).clock + 1);
        }
        for (int i = 0; i < fieldsAndValues.length; i += 2) {
            String field = (String) fieldsAndValues[i];
            op.writes.put(field, new Write(fieldsAndValues[i + 1], op.number, value(board, field),
                    stem(board, field)));
        }
        ops.add(op);
        known.get(user).add(op.number);
        return op.number;
    }

    // What a user sees.

    private boolean isSeen(int user, int shape) {
        return shape >= 0 && shape < sizes.size() && (Boolean) get(user, "t" + shape);
    }

    private List<Integer> seen(int user) {
        List<Integer> list = new ArrayList<>();
        for (int shape = 0; shape < sizes.size(); shape++) {
            if (isSeen(user, shape)) {
                list.add(shape);
            }
        }
        return list;
    }

    private List<Integer> inOrder(int user) {
        List<Integer> list = seen(user);
        list.sort((a, b) -> {
            float one = key(user, a);
            float two = key(user, b);
            return one < two ? -1 : one > two ? 1 : a - b;
        });
        return list;
    }

    private float key(int user, int shape) {
        return (Float) get(user, "k" + shape);
    }

    private Place place(int user, int shape) {
        return (Place) get(user, "p" + shape);
    }

    private boolean has(int user, int shape, int column, int row) {
        Place p = place(user, shape);
        Size s = sizes.get(shape);
        return column >= p.column && column < p.column + s.width && row >= p.row && row < p.row + s.height;
    }

    private boolean isWithin(int user, int inner, int outer) {
        Place p = place(user, inner);
        Size s = sizes.get(inner);
        for (int c = p.column; c < p.column + s.width; c++) {
            for (int r = p.row; r < p.row + s.height; r++) {
                if (!has(user, outer, c, r)) {
                    return false;
                }
            }
        }
        return true;
    }

    private boolean isSeenConnector(int user, int connector) {
        return connector >= 0 && connector < joints.size() && (Boolean) get(user, "c" + connector)
                && isSeen(user, joints.get(connector).shape) && isSeen(user, joints.get(connector).other);
    }

    // What is refused.

    private static void user(int user) {
        if (user < 0 || user > 2) {
            throw new IllegalArgumentException();
        }
    }

    private static void argument(boolean isRight) {
        if (!isRight) {
            throw new IllegalArgumentException();
        }
    }

    private void shape(int user, int shape) {
        if (!isSeen(user, shape)) {
            throw new NoSuchElementException();
        }
    }

    private void connector(int user, int connector) {
        if (!isSeenConnector(user, connector)) {
            throw new NoSuchElementException();
        }
    }

    private void lockedByNoOther(int user, int shape) {
        int locker = (Integer) get(user, "l" + shape);
        supported(locker == -1 || locker == user);
    }

    private static void supported(boolean isRight) {
        if (!isRight) {
            throw new UnsupportedOperationException();
        }
    }

    private static void state(boolean isRight) {
        if (!isRight) {
            throw new IllegalStateException();
        }
    }

    private void room() {
        state(ops.size() < 250);
    }

    private void op(int operation) {
        if (operation < 0 || operation >= ops.size()) {
            throw new NoSuchElementException();
        }
    }

    // The face.

    int addShape(int user, int column, int row, int width, int height, boolean isFrame) {
        user(user);
        argument(column >= 0 && column < 24 && row >= 0 && row < 16);
        argument(width >= 1 && width <= 8 && height >= 1 && height <= 8);
        argument(column + width <= 24 && row + height <= 16);
        state(sizes.size() < 12);
        room();
        List<Integer> order = inOrder(user);
        float key = order.isEmpty() ? 0.0f : key(user, order.get(order.size() - 1)) + 1.0f;
        int shape = sizes.size();
        sizes.add(new Size(width, height, isFrame));
        operation(user, true, "t" + shape, true, "p" + shape, new Place(column, row), "k" + shape, key);
        return shape;
    }

    int move(int user, int shape, int column, int row) {
        user(user);
        if (shape >= 0 && shape < sizes.size()) {
            Size s = sizes.get(shape);
            argument(column >= 0 && row >= 0 && column <= 24 - s.width && row <= 16 - s.height);
        }
        shape(user, shape);
        lockedByNoOther(user, shape);
        room();
        Place from = place(user, shape);
        List<Object> writes = new ArrayList<>();
        for (int other : seen(user)) {
            int locker = (Integer) get(user, "l" + other);
            boolean isCarried = sizes.get(shape).isFrame && isWithin(user, other, shape)
                    && (locker == -1 || locker == user);
            if (other == shape || isCarried) {
                Place p = place(user, other);
                writes.add("p" + other);
                writes.add(new Place(p.column + column - from.column, p.row + row - from.row));
            }
        }
        operation(user, true, writes.toArray());
        return writes.size() / 2;
    }

    private int giveKey(int user, int shape, float key) {
        room();
        operation(user, true, "k" + shape, key);
        return inOrder(user).indexOf(shape);
    }

    int raise(int user, int shape) {
        user(user);
        shape(user, shape);
        lockedByNoOther(user, shape);
        List<Integer> order = inOrder(user);
        return giveKey(user, shape, key(user, order.get(order.size() - 1)) + 1.0f);
    }

    int lower(int user, int shape) {
        user(user);
        shape(user, shape);
        lockedByNoOther(user, shape);
        return giveKey(user, shape, key(user, inOrder(user).get(0)) - 1.0f);
    }

    int putAbove(int user, int shape, int other) {
        user(user);
        argument(shape != other);
        shape(user, shape);
        shape(user, other);
        lockedByNoOther(user, shape);
        float low = key(user, other);
        for (int next : inOrder(user)) {
            float high = key(user, next);
            if (high > low) {
                float half = (low + high) / 2.0f;
                supported(half != low && half != high);
                return giveKey(user, shape, half);
            }
        }
        return giveKey(user, shape, low + 1.0f);
    }

    /** Whether half of the sum would be -0.0f and one of both keys 0.0f: the document does not say if this is refused. */
    boolean isPutUnclear(int user, int other) {
        if (user < 0 || user > 2 || !isSeen(user, other)) {
            return false;
        }
        float low = key(user, other);
        for (int next : inOrder(user)) {
            float high = key(user, next);
            if (high > low) {
                float half = (low + high) / 2.0f;
                return half == 0.0f && (low == 0.0f || high == 0.0f) && !Float.valueOf(half).equals(low)
                        && !Float.valueOf(half).equals(high);
            }
        }
        return false;
    }

    boolean hasShape(int shape) {
        return shape >= 0 && shape < sizes.size();
    }

    int remove(int user, int shape) {
        user(user);
        shape(user, shape);
        lockedByNoOther(user, shape);
        room();
        operation(user, true, "t" + shape, false);
        return seen(user).size();
    }

    int lock(int user, int shape) {
        user(user);
        shape(user, shape);
        lockedByNoOther(user, shape);
        room();
        operation(user, true, "l" + shape, user);
        int count = 0;
        for (int other : seen(user)) {
            count += get(user, "l" + other).equals(user) ? 1 : 0;
        }
        return count;
    }

    int unlock(int user, int shape) {
        user(user);
        shape(user, shape);
        int locker = (Integer) get(user, "l" + shape);
        supported(locker != -1);
        room();
        operation(user, true, "l" + shape, -1);
        return locker;
    }

    int connect(int user, int shape, char side, int other, char otherSide) {
        user(user);
        argument("tblr".indexOf(side) >= 0 && "tblr".indexOf(otherSide) >= 0 && shape != other);
        shape(user, shape);
        shape(user, other);
        state(joints.size() < 8);
        room();
        joints.add(new Joint(shape, side, other, otherSide));
        operation(user, true, "c" + (joints.size() - 1), true);
        return joints.size() - 1;
    }

    int disconnect(int user, int connector) {
        user(user);
        connector(user, connector);
        room();
        operation(user, true, "c" + connector, false);
        return connectors(user);
    }

    int vote(int user, int shape, int count) {
        user(user);
        argument(count >= 0 && count <= 3);
        shape(user, shape);
        supported(!(Boolean) get(user, "w"));
        int sum = count;
        for (int other = 0; other < sizes.size(); other++) {
            sum += other == shape ? 0 : votes(user, user, other);
        }
        supported(sum <= 5);
        room();
        int before = votes(user, user, shape);
        operation(user, true, "v" + user + "/" + shape, count);
        return before;
    }

    private int votes(int user, int voter, int shape) {
        return (Integer) get(user, "v" + voter + "/" + shape);
    }

    boolean show(int user, boolean areShown) {
        user(user);
        room();
        boolean before = (Boolean) get(user, "w");
        operation(user, true, "w", areShown);
        return before;
    }

    int takeBack(int user) {
        user(user);
        Op last = null;
        for (Op op : ops) {
            last = op.user == user && op.isStep && !op.isTakenBack ? op : last;
        }
        if (last == null) {
            throw new NoSuchElementException();
        }
        room();
        Map<String, Write> board = fields(user);
        last.isTakenBack = true;
        Op back = ops.get(operation(user, false));
        for (Map.Entry<String, Write> entry : last.writes.entrySet()) {
            if (stem(board, entry.getKey()) == last.number) {
                Write write = entry.getValue();
                back.writes.put(entry.getKey(), new Write(write.ahead, write.stemAhead, null, -1));
            }
        }
        return back.writes.size();
    }

    int deliver(int user, int operation) {
        user(user);
        op(operation);
        state(!known.get(user).contains(operation));
        known.get(user).add(operation);
        return known.get(user).size();
    }

    int sync(int user, int other) {
        user(user);
        user(other);
        argument(user != other);
        int before = known.get(user).size() + known.get(other).size();
        known.get(user).addAll(known.get(other));
        known.get(other).addAll(known.get(user));
        return known.get(user).size() + known.get(other).size() - before;
    }

    int operations() {
        return ops.size();
    }

    int userOf(int operation) {
        op(operation);
        return ops.get(operation).user;
    }

    int clockOf(int operation) {
        op(operation);
        return ops.get(operation).clock;
    }

    boolean knows(int user, int operation) {
        user(user);
        op(operation);
        return known.get(user).contains(operation);
    }

    int shapes(int user) {
        user(user);
        return seen(user).size();
    }

    boolean sees(int user, int shape) {
        user(user);
        return isSeen(user, shape);
    }

    int columnOf(int user, int shape) {
        user(user);
        shape(user, shape);
        return place(user, shape).column;
    }

    int rowOf(int user, int shape) {
        user(user);
        shape(user, shape);
        return place(user, shape).row;
    }

    int rankOf(int user, int shape) {
        user(user);
        shape(user, shape);
        return inOrder(user).indexOf(shape);
    }

    int shapeAt(int user, int rank) {
        user(user);
        List<Integer> order = inOrder(user);
        if (rank < 0 || rank >= order.size()) {
            throw new IndexOutOfBoundsException();
        }
        return order.get(rank);
    }

    float keyOf(int user, int shape) {
        user(user);
        shape(user, shape);
        return key(user, shape);
    }

    int keyBits(int user, int shape) {
        return Float.floatToIntBits(keyOf(user, shape));
    }

    int keyCut(int user, int shape) {
        return (int) (keyOf(user, shape) * 8.0f);
    }

    int topAt(int user, int column, int row) {
        user(user);
        argument(column >= 0 && column < 24 && row >= 0 && row < 16);
        int top = -1;
        for (int shape : inOrder(user)) {
            top = !sizes.get(shape).isFrame && has(user, shape, column, row) ? shape : top;
        }
        if (top < 0) {
            throw new NoSuchElementException();
        }
        return top;
    }

    int lockedBy(int user, int shape) {
        user(user);
        shape(user, shape);
        return (Integer) get(user, "l" + shape);
    }

    int inside(int user, int shape) {
        user(user);
        shape(user, shape);
        int count = 0;
        for (int other : seen(user)) {
            count += other != shape && isWithin(user, other, shape) ? 1 : 0;
        }
        return count;
    }

    int connectors(int user) {
        user(user);
        int count = 0;
        for (int connector = 0; connector < joints.size(); connector++) {
            count += isSeenConnector(user, connector) ? 1 : 0;
        }
        return count;
    }

    private Place end(int user, int shape, char side) {
        Place p = place(user, shape);
        Size s = sizes.get(shape);
        int column = p.column + (s.width - 1) / 2;
        int row = p.row + (s.height - 1) / 2;
        return switch (side) {
            case 't' -> new Place(column, p.row - 1);
            case 'b' -> new Place(column, p.row + s.height);
            case 'l' -> new Place(p.column - 1, row);
            default -> new Place(p.column + s.width, row);
        };
    }

    private boolean isFree(boolean[][] covered, Place p) {
        return p.column >= 0 && p.column < 24 && p.row >= 0 && p.row < 16 && !covered[p.column][p.row];
    }

    /** Bends and cells of the route of a connector, or null: a search over cells and four directions. */
    private int[] route(int user, int connector) {
        boolean[][] covered = new boolean[24][16];
        for (int shape : seen(user)) {
            for (int c = 0; c < 24; c++) {
                for (int r = 0; r < 16; r++) {
                    covered[c][r] |= !sizes.get(shape).isFrame && has(user, shape, c, r);
                }
            }
        }
        Joint joint = joints.get(connector);
        Place from = end(user, joint.shape, joint.side);
        Place to = end(user, joint.other, joint.otherSide);
        if (!isFree(covered, from) || !isFree(covered, to)) {
            return null;
        }
        Set<List<Object>> done = new HashSet<>();
        PriorityQueue<Object[]> queue = new PriorityQueue<>((a, b) -> {
            int[] one = (int[]) a[2];
            int[] two = (int[]) b[2];
            return one[0] != two[0] ? one[0] - two[0] : one[1] - two[1];
        });
        for (int d = 0; d < 4; d++) {
            queue.add(new Object[] {from, d, new int[] {0, 1}});
        }
        int[][] steps = {{1, 0}, {0, 1}, {-1, 0}, {0, -1}};
        while (!queue.isEmpty()) {
            Object[] entry = queue.poll();
            Place p = (Place) entry[0];
            int direction = (Integer) entry[1];
            int[] cost = (int[]) entry[2];
            if (p.equals(to)) {
                return cost;
            }
            if (!done.add(List.of(p, direction))) {
                continue;
            }
            for (int d = 0; d < 4; d++) {
                Place next = new Place(p.column + steps[d][0], p.row + steps[d][1]);
                if (isFree(covered, next)) {
                    queue.add(new Object[] {next, d, new int[] {cost[0] + (d == direction ? 0 : 1), cost[1] + 1}});
                }
            }
        }
        return null;
    }

    private int[] needRoute(int user, int connector) {
        user(user);
        connector(user, connector);
        int[] route = route(user, connector);
        supported(route != null);
        return route;
    }

    int bends(int user, int connector) {
        return needRoute(user, connector)[0];
    }

    int routeLength(int user, int connector) {
        return needRoute(user, connector)[1];
    }

    int ownVotes(int user, int shape) {
        user(user);
        shape(user, shape);
        return votes(user, user, shape);
    }

    private int votesTogether(int user, int shape) {
        return votes(user, 0, shape) + votes(user, 1, shape) + votes(user, 2, shape);
    }

    int votesFor(int user, int shape) {
        user(user);
        shape(user, shape);
        supported((Boolean) get(user, "w"));
        return votesTogether(user, shape);
    }

    int winner(int user) {
        user(user);
        supported((Boolean) get(user, "w"));
        int best = -1;
        for (int shape : seen(user)) {
            if (votesTogether(user, shape) > (best < 0 ? 0 : votesTogether(user, best))) {
                best = shape;
            }
        }
        if (best < 0) {
            throw new NoSuchElementException();
        }
        return best;
    }

    int outcome(int user) {
        user(user);
        long outcome = 0;
        for (int shape : seen(user)) {
            Place p = place(user, shape);
            for (int value : new int[] {shape, p.column, p.row, inOrder(user).indexOf(shape)}) {
                outcome = (outcome * 31 + value + 1) % 1000003;
            }
        }
        return (int) outcome;
    }

    int outcomes(int user, int many) {
        user(user);
        argument(many >= 0 && many <= 4);
        // Fields keep what the latest operation wrote, so no order makes a difference.
        return 1;
    }

    boolean areAlike(int user, int other) {
        user(user);
        user(other);
        Map<String, Write> one = fields(user);
        Map<String, Write> two = fields(other);
        Set<String> names = new HashSet<>(one.keySet());
        names.addAll(two.keySet());
        for (String name : names) {
            // Float.equals tells -0.0f from 0.0f, as the values of a key are told apart.
            if (!value(one, name).equals(value(two, name))) {
                return false;
            }
        }
        return true;
    }

    float frameShare(int user) {
        user(user);
        int frames = 0;
        for (int shape : seen(user)) {
            frames += sizes.get(shape).isFrame ? 1 : 0;
        }
        if (seen(user).isEmpty()) {
            throw new ArithmeticException();
        }
        return (float) frames / (float) seen(user).size();
    }

    double meanRoute(int user) {
        user(user);
        int sum = 0;
        int count = 0;
        for (int connector = 0; connector < joints.size(); connector++) {
            int[] route = isSeenConnector(user, connector) ? route(user, connector) : null;
            if (route != null) {
                sum += route[1];
                count++;
            }
        }
        if (count == 0) {
            throw new ArithmeticException();
        }
        return (double) sum / (double) count;
    }

    long area(int user) {
        user(user);
        long sum = 0;
        for (int shape : seen(user)) {
            sum += sizes.get(shape).width * sizes.get(shape).height;
        }
        return sum;
    }
}
