import java.util.ArrayList;
import java.util.List;

/** How user 0 gives a shape the key -0.0f: by putting three shapes between one another, closer and closer to 0. */
final class NegativeZero {
    record Put(int shape, int other, float key) {
    }

    /** Calls of putAbove with the key that is due, for shapes 0, 1 and 2 with the keys 3.0f, -1.0f and 2.0f. */
    static List<Put> puts() {
        List<Put> puts = new ArrayList<>();
        float[] keys = {3.0f, -1.0f, 2.0f};
        int free = 0;
        int low = 1;
        int high = 2;
        while (true) {
            float key = (keys[low] + keys[high]) / 2.0f;
            if (key == keys[low] || key == keys[high]) {
                throw new AssertionError("no -0.0f on this way");
            }
            puts.add(new Put(free, low, key));
            keys[free] = key;
            if (key == 0.0f) {
                return puts;
            }
            int moved = free;
            if (key < 0.0f) {
                free = low;
                low = moved;
            } else {
                free = high;
                high = moved;
            }
        }
    }

    /** Adds shapes 0, 1 and 2 with the keys that puts() asks for. */
    static void start(Plugboard board) {
        for (int i = 0; i < 3; i++) {
            board.addShape(0, 0, 0, 1, 1, false);
        }
        board.lower(0, 1);
        board.putAbove(0, 0, 2);
    }
}
