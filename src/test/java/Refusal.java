import java.util.function.Supplier;

/** Calls that are refused: what they throw, and that their object goes on as one that was not called so. */
final class Refusal {
    interface Call {
        Object on(Plugboard board);
    }

    interface NumberCall {
        Object on(Plugboard board, int number);
    }

    private final Check check;

    Refusal(Check check) {
        this.check = check;
    }

    void due(String what, Class<?> thrown, Supplier<Plugboard> start, Call call) {
        Plugboard asked = start.get();
        Plugboard twin = start.get();
        check.due(what, thrown, () -> call.on(asked));
        check.same(what + ": changes nothing", Boards.answers(twin), Boards.answers(asked));
        check.same(what + ": all goes on", Boards.goOn(twin), Boards.goOn(asked));
    }

    void noUser(String what, Supplier<Plugboard> start, NumberCall call) {
        for (int user : new int[] {-1, 3, Integer.MIN_VALUE, Integer.MAX_VALUE}) {
            due(what + ", no user " + user, Check.ARGUMENT, start, x -> call.on(x, user));
        }
    }

    /** For user 0 of a mixed board. */
    void noShape(String what, Supplier<Plugboard> start, NumberCall call) {
        due(what + ", a shape that the user does not know", Check.ELEMENT, start, x -> call.on(x, Boards.UNKNOWN));
        due(what + ", a shape that is removed", Check.ELEMENT, start, x -> call.on(x, Boards.REMOVED));
        for (int shape : new int[] {-1, Boards.NO_SHAPE, 11, 12, 13, Integer.MIN_VALUE, Integer.MAX_VALUE}) {
            due(what + ", no shape " + shape, Check.ELEMENT, start, x -> call.on(x, shape));
        }
    }

    /** For user 0 of a mixed board. */
    void noConnector(String what, Supplier<Plugboard> start, NumberCall call) {
        due(what + ", a connector that is removed", Check.ELEMENT, start, x -> call.on(x, Boards.LOOSE));
        due(what + ", a connector of a shape that is removed", Check.ELEMENT, start, x -> call.on(x, Boards.BROKEN));
        due(what + ", a connector that the user does not know", Check.ELEMENT, start,
                x -> call.on(x, Boards.FOREIGN));
        for (int connector : new int[] {-1, Boards.NO_CONNECTOR, 7, 8, 9, Integer.MIN_VALUE, Integer.MAX_VALUE}) {
            due(what + ", no connector " + connector, Check.ELEMENT, start, x -> call.on(x, connector));
        }
    }

    void noOperation(String what, Supplier<Plugboard> start, NumberCall call) {
        int next = start.get().operations();
        for (int operation : new int[] {-1, next, 250, 251, Integer.MIN_VALUE, Integer.MAX_VALUE}) {
            due(what + ", no operation " + operation, Check.ELEMENT, start, x -> call.on(x, operation));
        }
    }
}
