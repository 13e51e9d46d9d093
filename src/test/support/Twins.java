import java.util.List;

/**
 * Tells the whole state of an object by looking at twins that get the same calls: the looking costs the object
 * itself no call, and may change the twins.
 */
final class Twins {
    private static final int SIDE = 5;
    private static final int UNDO_ROOM = 8;
    private static final int LINE_BOUND = 100;

    private Twins() {
    }

    /** All that can be seen of an object after these calls. */
    static String wholeState(List<Object[]> calls) {
        Calls asked = twin(calls);
        StringBuilder state = new StringBuilder(boardState(calls));
        state.append("positions ").append(asked.answer("errorPosition")).append(' ')
                .append(asked.answer("failedCommand")).append('\n');
        state.append("line ").append(line(asked)).append('\n');
        Calls runner = twin(calls);
        state.append("run ").append(runner.answer("run")).append(' ').append(runner.answer("errorPosition"))
                .append(' ').append(runner.answer("failedCommand")).append('\n').append(board(runner));
        Calls longer = twin(calls);
        state.append("append ").append(longer.answer("append", '!')).append(' ').append(longer.answer("run"))
                .append(' ').append(longer.answer("errorPosition")).append('\n');
        return state.toString();
    }

    /** What undo, save and restore concern, now and after each of them. */
    static String boardState(List<Object[]> calls) {
        StringBuilder state = new StringBuilder(board(twin(calls)));
        boolean more = true;
        for (int steps = 1; more && steps <= UNDO_ROOM + 1; steps++) {
            Calls undoer = twin(calls);
            for (int step = 0; step < steps; step++) {
                Object answer = undoer.answer("undo");
                state.append("undo ").append(answer).append(' ');
                more = answer instanceof Integer;
            }
            state.append('\n').append(board(undoer));
        }
        Calls restorer = twin(calls);
        state.append("restore ").append(restorer.answer("restore")).append('\n').append(board(restorer));
        return state.toString();
    }

    private static Calls twin(List<Object[]> calls) {
        Calls twin = new Calls();
        for (Object[] call : calls) {
            twin.answer((String) call[0], (Object[]) call[1]);
        }
        return twin;
    }

    private static String board(Calls asked) {
        StringBuilder board = new StringBuilder();
        for (int row = 0; row < SIDE; row++) {
            for (int column = 0; column < SIDE; column++) {
                board.append(asked.answer("openings", row, column))
                        .append(asked.answer("isPinned", row, column).equals(true) ? "*" : "")
                        .append(shortly(asked.answer("lockAt", row, column))).append(' ');
            }
            board.append('\n');
        }
        for (char key = 'a'; key <= 'f'; key++) {
            board.append(key).append(shortly(asked.answer("keyRow", key)))
                    .append(shortly(asked.answer("keyColumn", key)))
                    .append(shortly(asked.answer("carrierOf", key))).append(' ');
        }
        int walkers = (Integer) asked.answer("walkerCount");
        for (int walker = 0; walker < walkers; walker++) {
            board.append('@').append(asked.answer("walkerRow", walker))
                    .append(asked.answer("walkerColumn", walker)).append(' ');
        }
        return board.append(asked.answer("shiftCount")).append(' ').append(asked.answer("walkedTotal"))
                .append('\n').toString();
    }

    private static String line(Calls asked) {
        StringBuilder line = new StringBuilder();
        for (int index = 0; index < LINE_BOUND; index++) {
            Object character = asked.answer("outputAt", index);
            if (!(character instanceof Character)) {
                return line.append('|').append(character).toString();
            }
            line.append(character);
        }
        return line.toString();
    }

    /** An exception as a dash, so that a picture of the board stays readable. */
    private static String shortly(Object answer) {
        return answer.equals(Bench.ELEMENT) ? "-" : answer.toString();
    }
}
