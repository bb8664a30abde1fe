/** Promises 10, 11, 33 to 36 and 45: connectors and their routes. */
public final class ConnectorsTest {
    private static final Check C = new Check("ConnectorsTest");

    public static void main(String[] args) {
        connect();
        limits();
        disconnect();
        seenWithBothShapes();
        endsOfSides();
        endsBeyondTheBoard();
        endsInCorners();
        oneCell();
        bendsBeforeLength();
        framesDoNotBlock();
        noWay();
        routeExceptions();
        meanRoute();
        C.end();
    }

    private static void route(String what, Plugboard x, int connector, Object bends, Object cells) {
        C.due(what + ", bends", bends, () -> x.bends(0, connector));
        C.due(what + ", bendsByRounds", bends, () -> x.bendsByRounds(0, connector));
        C.due(what + ", routeLength", cells, () -> x.routeLength(0, connector));
    }

    private static void connect() {
        Plugboard x = new Plugboard();
        x.addShape(0, 2, 2, 1, 1, false);
        x.addShape(0, 5, 5, 1, 1, false);
        x.addShape(1, 8, 8, 1, 1, false);
        C.due("no user", Check.ARGUMENT, () -> x.connect(3, 0, 't', 1, 'b'));
        C.due("no side", Check.ARGUMENT, () -> x.connect(0, 0, 'T', 1, 'b'));
        C.due("no other side", Check.ARGUMENT, () -> x.connect(0, 0, 't', 1, (char) 0));
        C.due("same shape", Check.ARGUMENT, () -> x.connect(0, 0, 't', 0, 'b'));
        C.due("same shape that does not exist", Check.ARGUMENT, () -> x.connect(0, 7, 't', 7, 'b'));
        C.due("no side ahead of no shape", Check.ARGUMENT, () -> x.connect(0, 0, 'x', 9, 'b'));
        C.due("no shape", Check.ELEMENT, () -> x.connect(0, 3, 't', 1, 'b'));
        C.due("no other shape", Check.ELEMENT, () -> x.connect(0, 1, 't', -1, 'b'));
        C.due("not seen", Check.ELEMENT, () -> x.connect(0, 2, 't', 1, 'b'));
        C.due("other one not seen", Check.ELEMENT, () -> x.connect(0, 1, 't', 2, 'b'));
        C.due("nothing changed", 3, () -> x.operations());
        C.due("connect", 0, () -> x.connect(0, 0, 't', 1, 'b'));
        C.due("the same again", 1, () -> x.connect(0, 0, 't', 1, 'b'));
        C.due("one operation each", 5, () -> x.operations());
        C.due("connectors", 2, () -> x.connectors(0));
        C.due("connectors of another user", 0, () -> x.connectors(1));
        C.due("no user", Check.ARGUMENT, () -> x.connectors(-1));
        C.due("one field", 1, () -> x.takeBack(0));
        C.due("connectors", 1, () -> x.connectors(0));
    }

    private static void limits() {
        Plugboard x = new Plugboard();
        x.addShape(0, 2, 2, 1, 1, false);
        x.addShape(0, 5, 5, 1, 1, false);
        x.sync(0, 1);
        for (int i = 0; i < 8; i++) {
            int number = i;
            C.due("number", number, () -> x.connect(number % 2, 0, 'l', 1, 'r'));
        }
        x.disconnect(0, 0);
        C.due("8 connectors", Check.STATE, () -> x.connect(0, 0, 't', 1, 'b'));
        C.due("element first", Check.ELEMENT, () -> x.connect(0, 0, 't', 2, 'b'));
        C.due("argument first", Check.ARGUMENT, () -> x.connect(0, 0, 't', 1, 'q'));

        Plugboard y = new Plugboard();
        y.addShape(0, 2, 2, 1, 1, false);
        y.addShape(0, 5, 5, 1, 1, false);
        y.connect(0, 0, 't', 1, 'b');
        Boards.with(y, 250);
        C.due("250 operations", Check.STATE, () -> y.connect(0, 0, 't', 1, 'b'));
        C.due("element first", Check.ELEMENT, () -> y.connect(1, 0, 't', 1, 'b'));
        C.due("disconnect", Check.STATE, () -> y.disconnect(0, 0));
        C.due("element first", Check.ELEMENT, () -> y.disconnect(0, 1));
        C.due("argument first", Check.ARGUMENT, () -> y.disconnect(3, 1));
        C.due("still there", 1, () -> y.connectors(0));
    }

    private static void disconnect() {
        Plugboard x = new Plugboard();
        x.addShape(0, 2, 2, 1, 1, false);
        x.addShape(0, 5, 5, 1, 1, false);
        x.connect(0, 0, 'r', 1, 'l');
        x.connect(0, 0, 'b', 1, 't');
        C.due("no user", Check.ARGUMENT, () -> x.disconnect(-1, 0));
        C.due("no connector", Check.ELEMENT, () -> x.disconnect(0, 2));
        C.due("no connector -1", Check.ELEMENT, () -> x.disconnect(0, -1));
        C.due("not seen", Check.ELEMENT, () -> x.disconnect(1, 0));
        C.due("disconnect", 1, () -> x.disconnect(0, 0));
        C.due("twice", Check.ELEMENT, () -> x.disconnect(0, 0));
        C.due("last", 0, () -> x.disconnect(0, 1));
        C.due("taken back", 1, () -> x.takeBack(0));
        C.due("there again", 1, () -> x.connectors(0));
        route("gone", x, 0, Check.ELEMENT, Check.ELEMENT);
        route("there again", x, 1, 1, 5);
    }

    private static void seenWithBothShapes() {
        Plugboard x = new Plugboard();
        x.addShape(0, 2, 2, 1, 1, false);
        x.addShape(0, 5, 5, 1, 1, false);
        x.connect(0, 0, 'r', 1, 'l');
        x.deliver(1, 2);
        C.due("no shapes yet", 0, () -> x.connectors(1));
        x.deliver(1, 1);
        C.due("one shape", 0, () -> x.connectors(1));
        C.due("not seen", Check.ELEMENT, () -> x.disconnect(1, 0));
        x.deliver(1, 0);
        C.due("both shapes", 1, () -> x.connectors(1));
        x.remove(1, 1);
        C.due("the other one is removed", 0, () -> x.connectors(1));
        x.takeBack(1);
        x.remove(1, 0);
        C.due("the first one is removed", 0, () -> x.connectors(1));
        C.due("not seen", Check.ELEMENT, () -> x.bends(1, 0));
        C.due("seen by the other user", 1, () -> x.connectors(0));
    }

    private static void endsOfSides() {
        // The ends are found by what a probe of one cell, standing on them, does to the route.
        int[][] sizes = {{1, 1}, {2, 2}, {3, 3}, {4, 5}, {5, 4}, {8, 8}};
        for (int[] size : sizes) {
            int w = size[0];
            int h = size[1];
            end(w, h, 't', 6 + (w - 1) / 2, 3);
            end(w, h, 'b', 6 + (w - 1) / 2, 4 + h);
            end(w, h, 'l', 5, 4 + (h - 1) / 2);
            end(w, h, 'r', 6 + w, 4 + (h - 1) / 2);
        }
    }

    private static void end(int width, int height, char side, int column, int row) {
        Plugboard x = new Plugboard();
        x.addShape(0, 6, 4, width, height, false);
        x.addShape(0, 23, 15, 1, 1, false);
        x.connect(0, 0, side, 1, 't');
        x.connect(0, 1, 't', 0, side);
        x.addShape(0, 0, 0, 1, 1, false);
        for (int c = 0; c < 24; c++) {
            for (int r = 0; r < 16; r++) {
                boolean isOnEnd = c == column && r == row || c == 23 && r == 14;
                if (isOnEnd || Math.abs(c - column) + Math.abs(r - row) <= 2) {
                    x.move(0, 2, c, r);
                    Object got = Check.answerOf(() -> x.bends(0, 0));
                    C.same("end " + side + " of " + width + "x" + height, isOnEnd, Check.UNSUPPORTED.equals(got));
                    C.due("by rounds", got, () -> x.bendsByRounds(0, 0));
                    C.due("the other way round", got, () -> x.bends(0, 1));
                }
            }
        }
    }

    private static void endsBeyondTheBoard() {
        char[] sides = {'t', 'b', 'l', 'r'};
        int[][] places = {{5, 0}, {5, 15}, {0, 5}, {23, 5}};
        for (int i = 0; i < 4; i++) {
            Plugboard x = new Plugboard();
            x.addShape(0, places[i][0], places[i][1], 1, 1, false);
            x.addShape(0, 10, 10, 1, 1, false);
            x.connect(0, 0, sides[i], 1, 't');
            x.connect(0, 1, 't', 0, sides[i]);
            route("end beyond the board", x, 0, Check.UNSUPPORTED, Check.UNSUPPORTED);
            route("end beyond the board", x, 1, Check.UNSUPPORTED, Check.UNSUPPORTED);
            C.due("no mean", Check.ARITHMETIC, () -> x.meanRoute(0));
        }
    }

    private static void endsInCorners() {
        // Each corner is come to along its row, along its column, and gone through where the straight way is blocked.
        int[][] corners = {{0, 0}, {23, 0}, {0, 15}, {23, 15}};
        for (int[] corner : corners) {
            boolean isLeft = corner[0] == 0;
            boolean isTop = corner[1] == 0;
            Plugboard x = new Plugboard();
            x.addShape(0, corner[0], isTop ? 1 : 14, 1, 1, false);
            x.addShape(0, isLeft ? 6 : 17, corner[1], 1, 1, false);
            char side = isTop ? 't' : 'b';
            char otherSide = isLeft ? 'l' : 'r';
            x.connect(0, 0, side, 1, otherSide);
            x.connect(0, 1, otherSide, 0, side);
            route("from the corner along its row", x, 0, 0, 6);
            route("to the corner along its row", x, 1, 0, 6);

            Plugboard y = new Plugboard();
            y.addShape(0, isLeft ? 1 : 22, corner[1], 1, 1, false);
            y.addShape(0, corner[0], isTop ? 6 : 9, 1, 1, false);
            y.connect(0, 0, otherSide, 1, side);
            y.connect(0, 1, side, 0, otherSide);
            route("from the corner along its column", y, 0, 0, 6);
            route("to the corner along its column", y, 1, 0, 6);

            Plugboard z = new Plugboard();
            z.addShape(0, isLeft ? 1 : 15, isTop ? 1 : 7, 8, 8, false);
            z.addShape(0, isLeft ? 10 : 13, corner[1], 1, 1, false);
            z.addShape(0, corner[0], isTop ? 10 : 5, 1, 1, false);
            z.connect(0, 1, otherSide, 2, side);
            route("through the corner", z, 0, 1, 19);
        }
    }

    private static void oneCell() {
        Plugboard x = new Plugboard();
        x.addShape(0, 2, 2, 3, 3, false);
        x.addShape(0, 6, 2, 3, 3, false);
        x.connect(0, 0, 'r', 1, 'l');
        route("both ends in one cell", x, 0, 0, 1);
        x.addShape(0, 5, 3, 1, 1, true);
        route("covered by a frame", x, 0, 0, 1);
        x.addShape(0, 5, 3, 1, 1, false);
        route("covered by a shape", x, 0, Check.UNSUPPORTED, Check.UNSUPPORTED);
    }

    private static void bendsBeforeLength() {
        Plugboard x = new Plugboard();
        // A wall with a hole beside the straight line: through the hole it would be shorter, with more bends.
        x.addShape(0, 0, 8, 1, 1, false);
        x.addShape(0, 23, 8, 1, 1, false);
        x.connect(0, 0, 'r', 1, 'l');
        route("straight", x, 0, 0, 22);
        x.addShape(0, 10, 8, 1, 8, false);
        route("around the wall", x, 0, 2, 24);
        x.addShape(0, 10, 1, 1, 6, false);
        route("through the hole", x, 0, 2, 24);
        x.addShape(0, 12, 6, 1, 8, false);
        // Through the hole in row 7 and below the new wall takes 4 bends; over row 0 it takes 2.
        route("over the top", x, 0, 2, 38);
        x.addShape(0, 10, 0, 1, 1, false);
        route("only through the hole", x, 0, 4, 28);
    }

    private static void framesDoNotBlock() {
        Plugboard x = new Plugboard();
        x.addShape(0, 1, 5, 2, 2, true);
        x.addShape(0, 20, 5, 2, 2, true);
        x.addShape(0, 8, 2, 8, 8, true);
        x.connect(0, 0, 'r', 1, 'l');
        route("through the frame", x, 0, 0, 17);
        x.connect(0, 0, 'l', 1, 'r');
        route("through the frames at the ends", x, 1, 0, 23);
        x.addShape(0, 9, 0, 1, 8, false);
        route("around the shape", x, 0, 2, 23);
        x.sync(0, 1);
        x.remove(0, 3);
        route("what is not seen blocks nothing", x, 0, 0, 17);
        C.due("it does where it is seen", 2, () -> x.bends(1, 0));
    }

    private static void noWay() {
        Plugboard x = new Plugboard();
        x.addShape(0, 0, 0, 1, 1, false);
        x.addShape(0, 20, 10, 1, 1, false);
        x.connect(0, 0, 'b', 1, 't');
        x.connect(0, 0, 'r', 1, 't');
        route("a way", x, 0, 1, 29);
        x.addShape(0, 1, 1, 1, 1, false);
        route("still a way", x, 0, 1, 29);
        x.addShape(0, 0, 2, 1, 1, false);
        route("walled in", x, 0, Check.UNSUPPORTED, Check.UNSUPPORTED);
        route("not walled in", x, 1, 1, 29);
        C.due("mean of those with a way", 29.0, () -> x.meanRoute(0));
    }

    private static void routeExceptions() {
        Plugboard x = new Plugboard();
        x.addShape(0, 2, 2, 1, 1, false);
        x.addShape(0, 5, 5, 1, 1, false);
        x.connect(0, 0, 'r', 1, 'l');
        C.due("no user", Check.ARGUMENT, () -> x.bends(3, 9));
        C.due("no user", Check.ARGUMENT, () -> x.bendsByRounds(3, 9));
        C.due("no user", Check.ARGUMENT, () -> x.routeLength(-1, 9));
        C.due("no user", Check.ARGUMENT, () -> x.meanRoute(3));
        route("no connector", x, 1, Check.ELEMENT, Check.ELEMENT);
        route("no connector", x, -1, Check.ELEMENT, Check.ELEMENT);
        route("no connector", x, Integer.MAX_VALUE, Check.ELEMENT, Check.ELEMENT);
        C.due("not seen", Check.ELEMENT, () -> x.bends(1, 0));
        C.due("not seen", Check.ELEMENT, () -> x.bendsByRounds(1, 0));
        C.due("not seen", Check.ELEMENT, () -> x.routeLength(1, 0));
    }

    private static void meanRoute() {
        Plugboard x = new Plugboard();
        C.due("none", Check.ARITHMETIC, () -> x.meanRoute(0));
        x.addShape(0, 2, 2, 1, 1, false);
        x.addShape(0, 5, 2, 1, 1, false);
        C.due("none", Check.ARITHMETIC, () -> x.meanRoute(0));
        x.connect(0, 0, 'r', 1, 'l');
        C.due("one", 2.0, () -> x.meanRoute(0));
        x.connect(0, 0, 't', 1, 't');
        C.due("two", 3.0, () -> x.meanRoute(0));
        x.connect(0, 0, 'b', 1, 'b');
        C.due("three", 10.0 / 3.0, () -> x.meanRoute(0));
        C.due("not seen", Check.ARITHMETIC, () -> x.meanRoute(1));
        x.disconnect(0, 1);
        C.due("two of three", 3.0, () -> x.meanRoute(0));
    }
}
