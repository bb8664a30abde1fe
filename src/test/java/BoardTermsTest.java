/** What the document's 'Terms' say of shapes, frames, connectors and votes, at the bounds that they name. */
public final class BoardTermsTest {
    private static final Check C = new Check("BoardTermsTest");

    public static void main(String[] args) {
        cells();
        seenShapes();
        orderOfKeys();
        firstKey();
        ownKeyCounts();
        nextGreaterKey();
        carriedWholly();
        carriedUnlocked();
        carriedToTheEdges();
        eightConnectors();
        seenConnectors();
        middles();
        endsAtTheEdge();
        coveredWays();
        bendsOfWays();
        manyBends();
        corridor();
        fewestCells();
        bendsBeforeCells();
        fiveVotes();
        fiveVotesEach();
        shownVotes();
        C.end();
    }

    private static Plugboard row(int shapes) {
        Plugboard x = new Plugboard();
        for (int i = 0; i < shapes; i++) {
            x.addShape(0, 2 * i, 8, 1, 1, false);
        }
        return x;
    }

    private static void syncAll(Plugboard x) {
        x.sync(0, 1);
        x.sync(1, 2);
        x.sync(0, 1);
    }

    // Terms: The board has 24 columns and 16 rows of cells, numbered from 0.
    private static void cells() {
        Plugboard x = row(1);
        for (int c = -1; c <= 24; c++) {
            int column = c;
            Object due = column < 0 || column > 23 ? Check.ARGUMENT : column == 0 ? (Object) 0 : Check.ELEMENT;
            C.due("column " + column, due, () -> x.topAt(0, column, 8));
        }
        for (int r = -1; r <= 16; r++) {
            int row = r;
            Object due = row < 0 || row > 15 ? Check.ARGUMENT : row == 8 ? (Object) 0 : Check.ELEMENT;
            C.due("row " + row, due, () -> x.topAt(0, 0, row));
        }
    }

    // Terms: A shape is a frame or not.
    // Terms: A user sees a shape if it is there on the user's board.
    private static void seenShapes() {
        Plugboard x = new Plugboard();
        x.addShape(0, 3, 3, 1, 1, true);
        x.addShape(0, 3, 3, 1, 1, false);
        for (int u = 0; u < 3; u++) {
            int user = u;
            for (int s = 0; s < 3; s++) {
                int shape = s;
                C.due("user " + user + ", shape " + shape, user == 0 && shape < 2, () -> x.sees(user, shape));
            }
        }
        C.due("one is a frame, one is not", 0.5f, () -> x.frameShare(0));
        C.due("the one that is not", 1, () -> x.topAt(0, 3, 3));
        x.sync(0, 1);
        x.remove(0, 1);
        C.due("there no more", false, () -> x.sees(0, 1));
        C.due("still there", true, () -> x.sees(1, 1));
        C.due("frames alone", 1.0f, () -> x.frameShare(0));
        C.due("no shape but a frame", Check.ELEMENT, () -> x.topAt(0, 3, 3));
        C.due("both", 0.5f, () -> x.frameShare(1));
    }

    // Terms: stand in the order of their keys, which are floats, the lowest first, and of equal ones in that of their
    // numbers
    private static void orderOfKeys() {
        Plugboard x = new Plugboard();
        for (int i = 0; i < 12; i++) {
            x.addShape(2 - i % 3, 0, 0, 1, 1, false);
        }
        syncAll(x);
        // Each user has given the keys 0, 1, 2 and 3 to shapes of its own.
        for (int s = 0; s < 12; s++) {
            int shape = s;
            C.due("key", (float) (shape / 3), () -> x.keyOf(0, shape));
            C.due("rank", shape, () -> x.rankOf(0, shape));
            C.due("shape", shape, () -> x.shapeAt(0, shape));
        }
        x.lower(0, 11);
        x.raise(0, 0);
        C.due("the lowest", 11, () -> x.shapeAt(0, 0));
        C.due("those of equal keys, one further", 1, () -> x.shapeAt(0, 1));
        C.due("the greatest", 0, () -> x.shapeAt(0, 11));
        C.due("the top of equal ones", 1, () -> topOfEqual());
    }

    private static int topOfEqual() {
        Plugboard x = new Plugboard();
        x.addShape(1, 0, 0, 1, 1, false);
        x.addShape(0, 0, 0, 1, 1, false);
        x.sync(0, 1);
        return x.topAt(0, 0, 0);
    }

    // Terms: The key of a new shape is 0.0f if the user sees no shapes, otherwise the greatest one that the user sees
    // plus 1.0f.
    private static void firstKey() {
        Plugboard x = new Plugboard();
        x.addShape(0, 0, 0, 1, 1, false);
        C.due("none is seen", 0.0f, () -> x.keyOf(0, 0));
        x.addShape(0, 0, 0, 1, 1, false);
        C.due("the greatest plus 1.0f", 1.0f, () -> x.keyOf(0, 1));
        x.raise(0, 0);
        x.addShape(0, 0, 0, 1, 1, false);
        C.due("whichever has it", 3.0f, () -> x.keyOf(0, 2));
        x.addShape(1, 0, 0, 1, 1, false);
        C.due("none is seen by this user", 0.0f, () -> x.keyOf(1, 3));
        x.remove(0, 2);
        x.addShape(0, 0, 0, 1, 1, false);
        C.due("a removed one does not count", 3.0f, () -> x.keyOf(0, 4));
        Plugboard y = row(2);
        y.remove(0, 0);
        y.remove(0, 1);
        y.addShape(0, 0, 0, 1, 1, false);
        C.due("none is seen any more", 0.0f, () -> y.keyOf(0, 2));
        Plugboard z = row(1);
        z.lower(0, 0);
        z.lower(0, 0);
        z.lower(0, 0);
        z.addShape(0, 0, 0, 1, 1, false);
        C.due("the greatest is less than 0", -2.0f, () -> z.keyOf(0, 1));
    }

    private static void ownKeyCounts() {
        Plugboard x = row(1);
        C.due("raise the only one", 0, () -> x.raise(0, 0));
        C.due("its own key plus 1.0f", 1.0f, () -> x.keyOf(0, 0));
        C.due("lower the only one", 0, () -> x.lower(0, 0));
        C.due("its own key minus 1.0f", 0.0f, () -> x.keyOf(0, 0));
        x.lower(0, 0);
        C.due("below 0", -1.0f, () -> x.keyOf(0, 0));
        Plugboard y = row(3);
        y.raise(0, 2);
        C.due("raise the greatest", 3.0f, () -> y.keyOf(0, 2));
        y.lower(0, 0);
        C.due("lower the lowest", -1.0f, () -> y.keyOf(0, 0));
        y.remove(0, 2);
        y.raise(0, 0);
        C.due("above those that are seen", 2.0f, () -> y.keyOf(0, 0));
        y.remove(0, 1);
        y.addShape(0, 0, 0, 1, 1, false);
        y.remove(0, 0);
        y.lower(0, 3);
        C.due("below those that are seen", 2.0f, () -> y.keyOf(0, 3));
    }

    // Promise 6: or the key of the other one plus 1.0f if there is no greater one.
    private static void nextGreaterKey() {
        Plugboard x = row(2);
        C.due("no greater one", 1, () -> x.putAbove(0, 0, 1));
        C.due("plus 1.0f", 2.0f, () -> x.keyOf(0, 0));
        C.due("its own is the next greater one", 1, () -> x.putAbove(0, 0, 1));
        C.due("half of the sum", 1.5f, () -> x.keyOf(0, 0));
        Plugboard y = row(4);
        C.due("the next one of several", 1, () -> y.putAbove(0, 3, 0));
        C.due("half of the sum", 0.5f, () -> y.keyOf(0, 3));
        y.remove(0, 3);
        C.due("not one that is removed", 1, () -> y.putAbove(0, 2, 0));
        C.due("half of the sum", 0.5f, () -> y.keyOf(0, 2));
        Plugboard z = new Plugboard();
        z.addShape(0, 0, 0, 1, 1, false);
        z.addShape(1, 0, 0, 1, 1, false);
        z.addShape(2, 0, 0, 1, 1, false);
        syncAll(z);
        C.due("equal keys are no greater ones", 2, () -> z.putAbove(0, 0, 2));
        C.due("plus 1.0f", 1.0f, () -> z.keyOf(0, 0));
        C.due("below a greater one", 1, () -> z.putAbove(0, 1, 2));
        C.due("half of the sum", 0.5f, () -> z.keyOf(0, 1));
    }

    // Terms: all shapes that the user sees, that are covered by the frame wholly ahead of that, and that no other user
    // has locked on the user's board, are moved by as much
    private static void carriedWholly() {
        // A frame of 4 x 3 at 8, 6, and a shape of 2 x 2 at all places around it.
        for (int c = 6; c <= 12; c++) {
            for (int r = 4; r <= 9; r++) {
                int column = c;
                int row = r;
                boolean isInside = column >= 8 && column <= 10 && row >= 6 && row <= 7;
                Plugboard x = new Plugboard();
                x.addShape(0, column, row, 2, 2, false);
                x.addShape(0, 8, 6, 4, 3, true);
                C.due("inside, at " + column + ", " + row, isInside ? 1 : 0, () -> x.inside(0, 1));
                C.due("moved, at " + column + ", " + row, isInside ? 2 : 1, () -> x.move(0, 1, 9, 4));
                C.due("column", isInside ? column + 1 : column, () -> x.columnOf(0, 0));
                C.due("row", isInside ? row - 2 : row, () -> x.rowOf(0, 0));
                C.due("one step", isInside ? 2 : 1, () -> x.takeBack(0));
                C.due("column", column, () -> x.columnOf(0, 0));
                C.due("row", row, () -> x.rowOf(0, 0));
            }
        }
        Plugboard y = new Plugboard();
        y.addShape(0, 0, 0, 8, 8, true);
        for (int i = 0; i < 11; i++) {
            y.addShape(0, i % 8, i / 8, 1, 1, i % 2 == 0);
        }
        C.due("all 12", 12, () -> y.move(0, 0, 16, 8));
        C.due("one step of 12 fields", 12, () -> y.takeBack(0));
        Plugboard z = new Plugboard();
        z.addShape(0, 0, 0, 8, 8, true);
        z.addShape(0, 10, 8, 1, 1, false);
        C.due("not what it covers only behind that", 1, () -> z.move(0, 0, 8, 8));
        C.due("not what it covers only behind that", 10, () -> z.columnOf(0, 1));
        C.due("it is carried from there", 2, () -> z.move(0, 0, 0, 0));
        C.due("column", 2, () -> z.columnOf(0, 1));
        C.due("row", 0, () -> z.rowOf(0, 1));
    }

    private static void carriedUnlocked() {
        Plugboard x = new Plugboard();
        x.addShape(0, 0, 0, 8, 8, true);
        for (int i = 0; i < 5; i++) {
            x.addShape(0, i, i, 1, 1, false);
        }
        syncAll(x);
        x.lock(0, 1);
        x.lock(1, 2);
        x.lock(2, 3);
        x.sync(0, 2);
        x.remove(0, 4);
        C.due("not user 2's, not the removed one", 4, () -> x.move(0, 0, 8, 8));
        int[] columns = {8, 8, 9, 2, -1, 12};
        for (int s = 0; s < 6; s++) {
            int shape = s;
            Object due = columns[shape] < 0 ? Check.ELEMENT : (Object) columns[shape];
            C.due("column of " + shape, due, () -> x.columnOf(0, shape));
        }
        C.due("four fields", 4, () -> x.takeBack(0));
        C.due("the removal", 1, () -> x.takeBack(0));
        C.due("it had not been moved", 3, () -> x.columnOf(0, 4));
        C.due("user 1 carries its own locked one, and those whose lock it does not know", 6, () -> x.move(1, 0, 1, 1));
    }

    private static void carriedToTheEdges() {
        int[][] corners = {{0, 0}, {16, 0}, {0, 8}, {16, 8}};
        for (int[] corner : corners) {
            Plugboard x = new Plugboard();
            x.addShape(0, 7, 3, 8, 8, true);
            x.addShape(0, 7, 3, 1, 1, false);
            x.addShape(0, 14, 10, 1, 1, false);
            C.due("to a corner", 3, () -> x.move(0, 0, corner[0], corner[1]));
            C.due("first column", corner[0], () -> x.columnOf(0, 1));
            C.due("first row", corner[1], () -> x.rowOf(0, 1));
            C.due("last column", corner[0] + 7, () -> x.columnOf(0, 2));
            C.due("last row", corner[1] + 7, () -> x.rowOf(0, 2));
        }
    }

    // Terms: At most 8 connectors have numbers from 0; each one joins a side of a shape and a side of another shape.
    private static void eightConnectors() {
        Plugboard x = row(2);
        x.sync(0, 1);
        for (int i = 0; i < 8; i++) {
            int number = i;
            C.due("connector " + number, number, () -> x.connect(number % 2, 0, 'r', 1, 'l'));
        }
        C.due("one more", Check.STATE, () -> x.connect(0, 0, 'r', 1, 'l'));
        C.due("half of them", 4, () -> x.connectors(0));
        x.sync(0, 1);
        C.due("all", 8, () -> x.connectors(0));
        C.due("the first", 0, () -> x.bends(0, 0));
        C.due("the last", 0, () -> x.bends(0, 7));
    }

    // Terms: A user sees a connector if it is there and both shapes are, on the user's board.
    private static void seenConnectors() {
        for (int know = 0; know < 8; know++) {
            Plugboard x = row(2);
            x.connect(0, 0, 'r', 1, 'l');
            for (int operation = 0; operation < 3; operation++) {
                if ((know >> operation & 1) == 1) {
                    x.deliver(2, operation);
                }
            }
            boolean isSeen = know == 7;
            C.due("connectors, " + know, isSeen ? 1 : 0, () -> x.connectors(2));
            C.due("bends, " + know, isSeen ? (Object) 0 : Check.ELEMENT, () -> x.bends(2, 0));
            C.due("bendsByRounds, " + know, isSeen ? (Object) 0 : Check.ELEMENT, () -> x.bendsByRounds(2, 0));
            C.due("routeLength, " + know, isSeen ? (Object) 1 : Check.ELEMENT, () -> x.routeLength(2, 0));
            C.due("meanRoute, " + know, isSeen ? (Object) 1.0 : Check.ARITHMETIC, () -> x.meanRoute(2));
            C.due("disconnect, " + know, isSeen ? (Object) 0 : Check.ELEMENT, () -> x.disconnect(2, 0));
        }
        for (int shape = 0; shape < 2; shape++) {
            Plugboard x = row(2);
            x.connect(0, 0, 'r', 1, 'l');
            x.remove(0, shape);
            C.due("one shape is removed", 0, () -> x.connectors(0));
            C.due("it comes back with the shape", 1, () -> x.takeBack(0));
            C.due("it comes back with the shape", 1, () -> x.connectors(0));
        }
    }

    // Terms: the middle of the sides 't' and 'b' is the column of the shape plus (width - 1) / 2, rounded down, that
    // of 'l' and 'r' the row plus (height - 1) / 2, rounded down
    private static void middles() {
        int[] middles = {0, 0, 1, 1, 2, 2, 3, 3};
        for (int s = 1; s <= 8; s++) {
            int size = s;
            int middle = middles[size - 1];
            wide(size, middle);
            high(size, middle);
        }
    }

    private static void wide(int width, int middle) {
        Plugboard x = new Plugboard();
        x.addShape(0, 8, 7, width, 2, false);
        x.addShape(0, 8 + middle, 0, 1, 1, false);
        x.addShape(0, 8 + middle, 15, 1, 1, false);
        x.connect(0, 0, 't', 1, 'b');
        x.connect(0, 2, 't', 0, 'b');
        C.due("above the middle of " + width, 0, () -> x.bends(0, 0));
        C.due("cells above", 6, () -> x.routeLength(0, 0));
        C.due("below the middle of " + width, 0, () -> x.bends(0, 1));
        C.due("cells below", 6, () -> x.routeLength(0, 1));
        x.move(0, 1, 9 + middle, 0);
        x.move(0, 2, 7 + middle, 15);
        C.due("one column beside it", 1, () -> x.bends(0, 0));
        C.due("cells above", 7, () -> x.routeLength(0, 0));
        C.due("one column beside it", 1, () -> x.bends(0, 1));
        C.due("cells below", 7, () -> x.routeLength(0, 1));
    }

    private static void high(int height, int middle) {
        Plugboard x = new Plugboard();
        x.addShape(0, 11, 4, 2, height, false);
        x.addShape(0, 2, 4 + middle, 1, 1, false);
        x.addShape(0, 21, 4 + middle, 1, 1, false);
        x.connect(0, 0, 'l', 1, 'r');
        x.connect(0, 2, 'l', 0, 'r');
        C.due("left of the middle of " + height, 0, () -> x.bends(0, 0));
        C.due("cells on the left", 8, () -> x.routeLength(0, 0));
        C.due("right of the middle of " + height, 0, () -> x.bends(0, 1));
        C.due("cells on the right", 8, () -> x.routeLength(0, 1));
        x.move(0, 1, 2, 5 + middle);
        x.move(0, 2, 21, 3 + middle);
        C.due("one row beside it", 1, () -> x.bends(0, 0));
        C.due("cells on the left", 9, () -> x.routeLength(0, 0));
        C.due("one row beside it", 1, () -> x.bends(0, 1));
        C.due("cells on the right", 9, () -> x.routeLength(0, 1));
    }

    // Terms: Its ends are the cells beside the middle of the sides, outside of the shapes
    private static void endsAtTheEdge() {
        // The side at the edge of the board has no cell beside it; one cell away from the edge it has.
        char[] sides = {'t', 'b', 'l', 'r'};
        int[][] at = {{5, 0}, {5, 15}, {0, 5}, {23, 5}};
        int[][] away = {{5, 1}, {5, 14}, {1, 5}, {22, 5}};
        for (int i = 0; i < 4; i++) {
            Plugboard x = new Plugboard();
            x.addShape(0, at[i][0], at[i][1], 1, 1, true);
            x.addShape(0, 12, 7, 1, 1, true);
            x.connect(0, 0, sides[i], 1, 't');
            x.connect(0, 1, 't', 0, sides[i]);
            for (int connector = 0; connector < 2; connector++) {
                int number = connector;
                C.due("no cell beside " + sides[i], Check.UNSUPPORTED, () -> x.bends(0, number));
                C.due("no cell beside " + sides[i], Check.UNSUPPORTED, () -> x.bendsByRounds(0, number));
                C.due("no cell beside " + sides[i], Check.UNSUPPORTED, () -> x.routeLength(0, number));
            }
            C.due("seen all the same", 2, () -> x.connectors(0));
            x.move(0, 0, away[i][0], away[i][1]);
            C.due("one cell beside " + sides[i], 1, () -> x.bends(0, 0));
            C.due("one cell beside " + sides[i], 1, () -> x.bendsByRounds(0, 1));
            int dueLength = Math.abs(12 - at[i][0]) + Math.abs(6 - at[i][1]) + 1;
            C.due("cells from " + sides[i], dueLength, () -> x.routeLength(0, 0));
        }
    }

    // Terms: no cell of it is covered by a shape that the user sees and that is not a frame
    private static void coveredWays() {
        // Two shapes beside one another in the first row, with a cell for both ends in between.
        Plugboard x = new Plugboard();
        x.addShape(0, 0, 0, 1, 1, false);
        x.addShape(0, 2, 0, 1, 1, false);
        x.addShape(0, 1, 0, 1, 1, true);
        x.addShape(0, 1, 1, 1, 1, false);
        x.connect(0, 0, 'r', 1, 'l');
        C.due("no bend in one cell", 0, () -> x.bends(0, 0));
        C.due("no bend in one cell", 0, () -> x.bendsByRounds(0, 0));
        C.due("one cell, under a frame", 1, () -> x.routeLength(0, 0));
        x.move(0, 3, 1, 0);
        C.due("the only cell is covered", Check.UNSUPPORTED, () -> x.bends(0, 0));
        C.due("the only cell is covered", Check.UNSUPPORTED, () -> x.bendsByRounds(0, 0));
        C.due("the only cell is covered", Check.UNSUPPORTED, () -> x.routeLength(0, 0));
        x.sync(0, 1);
        x.remove(0, 3);
        C.due("by a shape that is not seen any more", 1, () -> x.routeLength(0, 0));
        C.due("it is still seen by user 1", Check.UNSUPPORTED, () -> x.routeLength(1, 0));
        // A shape covers the end of the other one, or its own end is covered by the shape that it is joined to.
        Plugboard y = new Plugboard();
        y.addShape(0, 4, 4, 2, 2, false);
        y.addShape(0, 6, 4, 2, 2, false);
        y.connect(0, 0, 'r', 1, 't');
        y.connect(0, 0, 't', 1, 't');
        C.due("covered by the other shape", Check.UNSUPPORTED, () -> y.bends(0, 0));
        C.due("not covered", 0, () -> y.bends(0, 1));
        C.due("three cells", 3, () -> y.routeLength(0, 1));
    }

    // Terms: It has a bend in each cell in which it turns.
    private static void bendsOfWays() {
        // A wall of all rows but one: the way goes through the only hole, up and down beside the shapes.
        for (int r = 0; r < 16; r++) {
            int hole = r;
            Plugboard x = new Plugboard();
            x.addShape(0, 4, 8, 1, 1, false);
            x.addShape(0, 18, 8, 1, 1, false);
            x.connect(0, 0, 'r', 1, 'l');
            wall(x, 11, hole);
            C.due("through the hole in row " + hole, hole == 8 ? 0 : 2, () -> x.bends(0, 0));
            C.due("by rounds", hole == 8 ? 0 : 2, () -> x.bendsByRounds(0, 0));
            C.due("cells", 13 + 2 * Math.abs(hole - 8), () -> x.routeLength(0, 0));
            x.addShape(0, 11, hole, 1, 1, false);
            C.due("no hole", Check.UNSUPPORTED, () -> x.bends(0, 0));
            C.due("no hole", Check.UNSUPPORTED, () -> x.bendsByRounds(0, 0));
            C.due("no hole", Check.UNSUPPORTED, () -> x.routeLength(0, 0));
            C.due("none with a way", Check.ARITHMETIC, () -> x.meanRoute(0));
        }
    }

    private static void wall(Plugboard x, int column, int hole) {
        int top = 0;
        while (top < 16) {
            int end = Math.min(top < hole ? hole : 16, top + 8);
            if (top == hole) {
                top++;
            } else {
                x.addShape(0, column, top, 1, end - top, false);
                top = end;
            }
        }
    }

    private static void ways(String what, Plugboard x, int bends, int cells) {
        for (int connector = 0; connector < 2; connector++) {
            int number = connector;
            C.due(what + ", bends", bends, () -> x.bends(0, number));
            C.due(what + ", bends by rounds", bends, () -> x.bendsByRounds(0, number));
            C.due(what + ", cells", cells, () -> x.routeLength(0, number));
        }
        C.due(what + ", mean", (double) cells, () -> x.meanRoute(0));
    }

    // Walls from side to side, with a hole at their top and at their bottom by turns, or at their left and right.
    private static void manyBends() {
        for (int walls = 0; walls <= 5; walls++) {
            Plugboard x = new Plugboard();
            x.addShape(0, 0, 15, 1, 1, false);
            x.addShape(0, 23, walls % 2 == 0 ? 15 : 0, 1, 1, false);
            x.connect(0, 0, 'r', 1, 'l');
            x.connect(0, 1, 'l', 0, 'r');
            for (int i = 0; i < walls; i++) {
                int first = i % 2 == 0 ? 1 : 0;
                x.addShape(0, 4 * i + 4, first, 1, 8, false);
                x.addShape(0, 4 * i + 4, first + 8, 1, 7, false);
            }
            ways(walls + " walls across", x, walls == 0 ? 0 : 2 * walls - 1, 22 + 15 * walls);
        }
        for (int walls = 0; walls <= 3; walls++) {
            Plugboard x = new Plugboard();
            x.addShape(0, 23, 0, 1, 1, false);
            x.addShape(0, walls % 2 == 0 ? 23 : 0, 15, 1, 1, false);
            x.connect(0, 0, 'b', 1, 't');
            x.connect(0, 1, 't', 0, 'b');
            for (int i = 0; i < walls; i++) {
                int first = i % 2 == 0 ? 1 : 0;
                x.addShape(0, first, 4 * i + 3, 8, 1, false);
                x.addShape(0, first + 8, 4 * i + 3, 8, 1, false);
                x.addShape(0, first + 16, 4 * i + 3, 7, 1, false);
            }
            ways(walls + " walls along", x, walls == 0 ? 0 : 2 * walls - 1, 14 + 23 * walls);
        }
    }

    // One cell wide, so that each cell is come to in a single manner.
    private static void corridor() {
        for (int turned = 0; turned < 2; turned++) {
            boolean isTurned = turned == 1;
            Plugboard x = new Plugboard();
            x.addShape(0, 0, 0, 1, 1, false);
            x.addShape(0, isTurned ? 10 : 8, isTurned ? 8 : 10, 1, 1, false);
            x.connect(0, 0, isTurned ? 'b' : 'r', 1, isTurned ? 'l' : 't');
            x.connect(0, 1, isTurned ? 'l' : 't', 0, isTurned ? 'b' : 'r');
            x.addShape(0, isTurned ? 1 : 0, isTurned ? 0 : 1, 8, 8, false);
            x.addShape(0, isTurned ? 0 : 9, isTurned ? 9 : 0, isTurned ? 8 : 1, isTurned ? 1 : 8, false);
            x.addShape(0, isTurned ? 8 : 9, isTurned ? 9 : 8, 1, 1, false);
            ways("a corridor", x, 1, 17);
        }
    }

    // Terms: The route is a way with the fewest bends, and with the fewest cells of these.
    private static void fewestCells() {
        // Past a tall shape there are two ways with two bends each; the shorter one is taken.
        for (int t = 0; t <= 8; t++) {
            int top = t;
            Plugboard x = new Plugboard();
            x.addShape(0, 0, 7, 1, 1, false);
            x.addShape(0, 20, 7, 1, 1, false);
            x.connect(0, 0, 'r', 1, 'l');
            x.addShape(0, 10, top, 1, 8, false);
            int over = top == 0 ? 100 : 8 - top;
            int under = top + 1;
            boolean isInTheWay = top <= 7;
            C.due("bends past rows from " + top, isInTheWay ? 2 : 0, () -> x.bends(0, 0));
            C.due("cells past rows from " + top, 19 + (isInTheWay ? 2 * Math.min(over, under) : 0),
                    () -> x.routeLength(0, 0));
        }
    }

    // Terms: a way with the fewest bends, and with the fewest cells of these
    private static void bendsBeforeCells() {
        Plugboard x = new Plugboard();
        x.addShape(0, 0, 8, 1, 1, false);
        x.addShape(0, 23, 8, 1, 1, false);
        x.connect(0, 0, 'r', 1, 'l');
        x.connect(0, 1, 'l', 0, 'r');
        x.addShape(0, 10, 8, 1, 8, false);
        ways("over a wall, through row 7", x, 2, 24);
        x.addShape(0, 15, 1, 1, 7, false);
        // Behind the first wall a way could go down again: 24 cells, but 3 bends, and into the end along its row.
        ways("through row 0", x, 2, 38);
        x.addShape(0, 15, 0, 1, 1, false);
        ways("down again behind the first wall", x, 3, 24);
    }

    // Terms: A user gives at most 5 votes to all shapes together, those that are not seen included.
    private static void fiveVotes() {
        for (int a = 0; a <= 3; a++) {
            for (int b = 0; b <= 3; b++) {
                for (int c = 0; c <= 3; c++) {
                    int one = a;
                    int two = b;
                    int three = c;
                    Plugboard x = row(3);
                    x.vote(0, 0, one);
                    C.due("second " + one + two, one + two > 5 ? Check.UNSUPPORTED : (Object) 0,
                            () -> x.vote(0, 1, two));
                    int given = one + (one + two > 5 ? 0 : two);
                    x.remove(0, 0);
                    C.due("third " + one + two + three, given + three > 5 ? Check.UNSUPPORTED : (Object) 0,
                            () -> x.vote(0, 2, three));
                }
            }
        }
    }

    // The votes of the others for the first and the last shape do not count for a user's own 5.
    private static void fiveVotesEach() {
        Plugboard x = row(12);
        syncAll(x);
        int[] shapes = {0, 11};
        for (int u = 0; u < 3; u++) {
            int user = u;
            C.due("3 for the first", 0, () -> x.vote(user, shapes[0], 3));
            C.due("2 for the last", 0, () -> x.vote(user, shapes[1], 2));
            C.due("no more", Check.UNSUPPORTED, () -> x.vote(user, 5, 1));
            syncAll(x);
        }
        for (int u = 0; u < 3; u++) {
            int user = u;
            C.due("2 in place of 3", 3, () -> x.vote(user, shapes[0], 2));
            C.due("3 in place of 2", 2, () -> x.vote(user, shapes[1], 3));
            C.due("no more", Check.UNSUPPORTED, () -> x.vote(user, shapes[0], 3));
            syncAll(x);
        }
        x.connect(0, 0, 't', 1, 't');
        x.show(0, true);
        C.due("all together", 6, () -> x.votesFor(0, 0));
        C.due("all together", 9, () -> x.votesFor(0, 11));
        C.due("none", 0, () -> x.votesFor(0, 5));
        C.due("the most", 11, () -> x.winner(0));
    }

    // Terms: While votes are shown on a user's board, this user cannot vote.
    private static void shownVotes() {
        Plugboard x = row(2);
        syncAll(x);
        x.vote(0, 0, 1);
        x.show(1, true);
        C.due("not shown here", 1, () -> x.vote(0, 0, 2));
        C.due("shown here", Check.UNSUPPORTED, () -> x.vote(1, 0, 1));
        C.due("not shown here", Check.UNSUPPORTED, () -> x.votesFor(0, 0));
        C.due("shown here", 0, () -> x.votesFor(1, 0));
        x.sync(0, 1);
        // User 1 showed them with the clock 3, user 0 voted with 3 and 4.
        C.due("shown here too", Check.UNSUPPORTED, () -> x.vote(0, 0, 1));
        C.due("shown here too", 2, () -> x.votesFor(0, 0));
        C.due("user 2 knows nothing of it", 0, () -> x.vote(2, 0, 3));
        C.due("taken back by the one who has shown them", 1, () -> x.takeBack(1));
        C.due("hidden there", Check.UNSUPPORTED, () -> x.votesFor(1, 0));
        C.due("not known here", 2, () -> x.votesFor(0, 0));
        C.due("can vote there", 0, () -> x.vote(1, 0, 3));
        C.due("not here", Check.UNSUPPORTED, () -> x.vote(0, 0, 0));
        x.sync(0, 1);
        C.due("can vote here", 2, () -> x.vote(0, 0, 0));
    }
}
