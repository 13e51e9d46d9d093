import java.util.ArrayList;
import java.util.Arrays;
import java.util.List;

/** What one test works with: a new object, the answers that are due, and the faults that were found. */
final class Bench {
    static final String INDEX = "throws.IndexOutOfBoundsException";
    static final String ARGUMENT = "throws.IllegalArgumentException";
    static final String STATE = "throws.IllegalStateException";
    static final String UNSUPPORTED = "throws.UnsupportedOperationException";
    static final String ELEMENT = "throws.NoSuchElementException";

    static final int SIDE = 5;
    static final int MIN = Integer.MIN_VALUE;
    static final int MAX = Integer.MAX_VALUE;

    private static final int[] BAD_LINES = {-1, 5, -5, 6, 25, MIN, MAX};
    // Among them those that stand for a cell of the board if row and column are made one number unseen.
    private static final int[][] BAD_CELLS = {
        {-1, 0}, {5, 0}, {0, -1}, {0, 5}, {-1, -1}, {5, 5}, {4, 5}, {5, 4}, {-1, 4}, {4, -1}, {1, -5}, {-1, 5},
        {0, 24}, {24, 0}, {5, -1}, {MIN, 0}, {MAX, 0}, {0, MIN}, {0, MAX}, {MIN, MIN}, {MAX, MAX},
    };
    private static final char[] BAD_KEYS = {'`', 'g', 'A', 'F', '0', ' ', 0, 255, 'a' + 256, 'f' + 32768, 65535};

    private final List<String> faults = new ArrayList<>();
    private List<Object[]> log = new ArrayList<>();
    private Calls object = new Calls();
    private int checks = 0;

    List<String> faults() {
        return faults;
    }

    int checks() {
        return checks;
    }

    /** Goes on with a new object. */
    void fresh() {
        object = new Calls();
        log = new ArrayList<>();
    }

    Object call(String name, Object... arguments) {
        log.add(new Object[] {name, arguments});
        return object.answer(name, arguments);
    }

    /** A call that leads to what is tested, and must succeed. */
    void does(String name, Object... arguments) {
        Object got = call(name, arguments);
        if (got.toString().startsWith("throws.")) {
            faults.add(name + Arrays.toString(arguments) + " must succeed, but answered " + got);
        }
    }

    void due(Object want, String name, Object... arguments) {
        Object got = call(name, arguments);
        checks++;
        if (!want.equals(got)) {
            faults.add(name + Arrays.toString(arguments) + " answered " + got + ", due is " + want);
        }
    }

    void same(Object want, Object got, String what) {
        checks++;
        if (!want.equals(got)) {
            faults.add(what + ": got\n" + got + "\ndue is\n" + want);
        }
    }

    /** A call that must throw this exception and change nothing at all. */
    void refused(String exception, String name, Object... arguments) {
        String before = wholeState();
        due(exception, name, arguments);
        same(before, wholeState(), name + Arrays.toString(arguments) + " is refused and changes nothing");
    }

    /** Refuses the call, right as it is, with each value that is wrong at this place of its arguments. */
    void refusedWith(String exception, Object[] values, int place, String name, Object... right) {
        String before = wholeState();
        for (Object value : values) {
            Object[] arguments = right.clone();
            arguments[place] = value;
            due(exception, name, arguments);
        }
        same(before, wholeState(), name + " is refused and changes nothing");
    }

    void refusedNumbers(String exception, int[] numbers, int place, String name, Object... right) {
        refusedWith(exception, Arrays.stream(numbers).boxed().toArray(), place, name, right);
    }

    /** Refuses the call, right as it is, for all that is no row or no column at this place. */
    void refusedLines(int place, String name, Object... right) {
        refusedNumbers(INDEX, BAD_LINES, place, name, right);
    }

    /** Refuses the call, right as it is, for all that is no cell at this place and the next. */
    void refusedCells(int place, String name, Object... right) {
        String before = wholeState();
        for (int[] cell : BAD_CELLS) {
            Object[] arguments = right.clone();
            arguments[place] = cell[0];
            arguments[place + 1] = cell[1];
            due(INDEX, name, arguments);
        }
        same(before, wholeState(), name + " is refused and changes nothing");
    }

    /** Refuses the call, right as it is, for all that is no key at this place. */
    void refusedKeys(int place, String name, Object... right) {
        Object[] keys = new Object[BAD_KEYS.length];
        for (int index = 0; index < keys.length; index++) {
            keys[index] = BAD_KEYS[index];
        }
        refusedWith(ARGUMENT, keys, place, name, right);
    }

    /** Refuses the call, right as it is, for all that is no walker: there must be this number of them. */
    void refusedWalkers(int walkers, String name, Object... right) {
        due(walkers, "walkerCount");
        refusedNumbers(INDEX, new int[] {-1, walkers, walkers + 1, 3, 4, MIN, MAX}, 0, name, right);
    }

    String wholeState() {
        return Twins.wholeState(log);
    }

    String boardState() {
        return Twins.boardState(log);
    }

    void everyTile(int openings) {
        for (int row = 0; row < SIDE; row++) {
            for (int column = 0; column < SIDE; column++) {
                does("setTile", row, column, openings);
            }
        }
    }

    /** Makes row 0 a way of its own from west to east. */
    void wayInRow0() {
        for (int column = 0; column < SIDE; column++) {
            does("setTile", 0, column, 10);
        }
    }

    /** Makes one way of all 25 cells: from 40 to 44, from 34 to 30 and so on, up to 04. */
    void wayThroughAllCells() {
        everyTile(10);
        does("setTile", 4, 4, 9);
        does("setTile", 3, 4, 12);
        does("setTile", 3, 0, 3);
        does("setTile", 2, 0, 6);
        does("setTile", 2, 4, 9);
        does("setTile", 1, 4, 12);
        does("setTile", 1, 0, 3);
        does("setTile", 0, 0, 6);
    }

    void type(String text) {
        for (int index = 0; index < text.length(); index++) {
            does("append", text.charAt(index));
        }
    }

    void dueRun(Object want, String text) {
        type(text);
        due(want, "run");
    }

    /** The text is no program, and this is its error position. */
    void dueError(int position, String text) {
        dueRun(ARGUMENT, text);
        Object got = call("errorPosition");
        same(position, got, "error position of \"" + text + "\"");
    }

    /** The text is a program, and the command with this index fails. */
    void dueFailure(int index, String text) {
        dueRun(UNSUPPORTED, text);
        Object got = call("failedCommand");
        same(index, got, "failed command of \"" + text + "\"");
    }

    /** The row is written like this. */
    void dueRow(String line, int row) {
        due(line.length(), "writeRow", row);
        dueLine(line);
    }

    /** This stands in the output line. */
    void dueLine(String line) {
        for (int index = 0; index < line.length(); index++) {
            due(line.charAt(index), "outputAt", index);
        }
        due(INDEX, "outputAt", line.length());
    }
}
