import java.util.Arrays;
import java.util.NoSuchElementException;

/**
 * A model of a hedge maze on a board whose rows and columns can be shifted: tiles with openings,
 * pinned tiles, keys and locks, walkers, and shortest paths.
 *
 * <p>All room is made in the constructor; a call makes no object but the exception that it throws.
 */
public final class BrambleShift {
    private static final int SIDE = 5;
    private static final int CELLS = SIDE * SIDE;
    private static final int DIRECTIONS = 4;
    private static final int ALL_OPENINGS = 15;
    private static final int KEYS = 6;
    private static final char FIRST_KEY = 'a';
    private static final int WALKERS = 3;
    private static final int TEXT_ROOM = 60;
    private static final int COMMAND_VALUES = 3;
    private static final int UNDO_ROOM = 8;
    // Five columns with openings, pin, lock and walkers, four blanks and all keys.
    private static final int LINE_ROOM = 5 * SIDE + SIDE - 1 + KEYS;

    // Stands for no key, no cell, no error position and the like; never an index.
    private static final int NONE = -1;
    // Longer than any path on the board.
    private static final int NO_PATH = CELLS;

    // A change of the board answers a number from 0, or one of these if it must not be made.
    private static final int NO_SUCH_INDEX = -1;
    private static final int BAD_ARGUMENT = -2;
    private static final int BAD_STATE = -3;
    private static final int UNSUPPORTED = -4;
    private static final int NO_SUCH_ELEMENT = -5;

    private static final Command[] COMMANDS = Command.values();

    private final Board board;
    private final Board before;
    private final Board trial;
    private final Board saved;
    private boolean hasSaved;
    private final History history;
    private final Search search;
    private final Program program;
    private int storedErrorPosition;
    private int storedFailedCommand;
    private final char[] line;
    private int lineLength;

    public BrambleShift() {
        board = new Board();
        before = new Board();
        trial = new Board();
        saved = new Board();
        hasSaved = false;
        history = new History();
        search = new Search();
        program = new Program();
        storedErrorPosition = NONE;
        storedFailedCommand = NONE;
        line = new char[LINE_ROOM];
        lineLength = 0;
    }

    // ---- tiles

    public int setTile(int row, int column, int openings)
            throws IndexOutOfBoundsException, IllegalArgumentException {
        before.copyFrom(board);
        return settle(board.replaceOpenings(row, column, openings));
    }

    public int turnTile(int row, int column, int quarterTurns)
            throws IndexOutOfBoundsException, IllegalArgumentException, IllegalStateException {
        before.copyFrom(board);
        return settle(board.turnOpenings(row, column, quarterTurns));
    }

    public int pin(int row, int column) throws IndexOutOfBoundsException, IllegalStateException {
        before.copyFrom(board);
        return settle(board.fixTile(row, column));
    }

    public int unpin(int row, int column) throws IndexOutOfBoundsException, IllegalStateException {
        before.copyFrom(board);
        return settle(board.freeTile(row, column));
    }

    public int shiftRow(int row, int steps)
            throws IndexOutOfBoundsException, IllegalArgumentException, IllegalStateException {
        before.copyFrom(board);
        return settle(board.moveRow(row, steps));
    }

    public int shiftColumn(int column, int steps)
            throws IndexOutOfBoundsException, IllegalArgumentException, IllegalStateException {
        before.copyFrom(board);
        return settle(board.moveColumn(column, steps));
    }

    // ---- keys, locks and walkers

    public int placeKey(char key, int row, int column)
            throws IllegalArgumentException, IndexOutOfBoundsException, IllegalStateException {
        before.copyFrom(board);
        return settle(board.layKey(key, row, column));
    }

    public int addLock(int row, int column, char key)
            throws IndexOutOfBoundsException, IllegalArgumentException, IllegalStateException {
        before.copyFrom(board);
        return settle(board.hangLock(row, column, key));
    }

    public char removeLock(int row, int column)
            throws IndexOutOfBoundsException, NoSuchElementException {
        before.copyFrom(board);
        return (char) settle(board.takeLock(row, column));
    }

    public int addWalker(int row, int column)
            throws IndexOutOfBoundsException, IllegalStateException, UnsupportedOperationException {
        before.copyFrom(board);
        return settle(board.enterWalker(row, column));
    }

    public int walk(int walker, int row, int column)
            throws IndexOutOfBoundsException, IllegalArgumentException, IllegalStateException {
        before.copyFrom(board);
        return settle(board.moveWalker(search, walker, row, column));
    }

    // ---- queries about tiles

    public int openings(int row, int column) throws IndexOutOfBoundsException {
        return board.openings[needCell(row, column)];
    }

    public boolean isPinned(int row, int column) throws IndexOutOfBoundsException {
        return board.isFixed(needCell(row, column));
    }

    public boolean canShiftRow(int row) throws IndexOutOfBoundsException {
        return board.isLineFree(needLine(row) * SIDE, 1);
    }

    public boolean canShiftColumn(int column) throws IndexOutOfBoundsException {
        return board.isLineFree(needLine(column), SIDE);
    }

    public boolean hasLock(int row, int column) throws IndexOutOfBoundsException {
        return board.locks[needCell(row, column)] != NONE;
    }

    public char lockAt(int row, int column)
            throws IndexOutOfBoundsException, NoSuchElementException {
        int lock = board.locks[needCell(row, column)];
        if (lock == NONE) {
            throw new NoSuchElementException("the tile has no lock");
        }
        return keyName(lock);
    }

    public int keysAt(int row, int column) throws IndexOutOfBoundsException {
        return board.countKeys(needCell(row, column));
    }

    public boolean isConnected(int row, int column, int direction)
            throws IndexOutOfBoundsException, IllegalArgumentException {
        int cell = needCell(row, column);
        if (direction < 0 || direction >= DIRECTIONS) {
            throw new IllegalArgumentException("no such direction");
        }
        return board.connectedNeighbour(cell, direction) != NONE;
    }

    public int regionCount() {
        return search.countGroups(board);
    }

    public int regionCountByMerging() {
        return search.countGroupsByMerging(board);
    }

    // ---- queries about keys

    public int keyRow(char key) throws IllegalArgumentException, NoSuchElementException {
        return needKeyCell(key) / SIDE;
    }

    public int keyColumn(char key) throws IllegalArgumentException, NoSuchElementException {
        return needKeyCell(key) % SIDE;
    }

    public int carrierOf(char key) throws IllegalArgumentException, NoSuchElementException {
        int place = board.keyPlaces[needKey(key)];
        if (place < CELLS) {
            throw new NoSuchElementException("no walker carries the key");
        }
        return place - CELLS;
    }

    // ---- queries about walkers and paths

    public int walkerCount() {
        return board.walkers;
    }

    public int walkerRow(int walker) throws IndexOutOfBoundsException {
        return board.walkerCells[needWalker(walker)] / SIDE;
    }

    public int walkerColumn(int walker) throws IndexOutOfBoundsException {
        return board.walkerCells[needWalker(walker)] % SIDE;
    }

    public int keysOf(int walker) throws IndexOutOfBoundsException {
        return board.countKeys(CELLS + needWalker(walker));
    }

    public int pathLength(int walker, int row, int column)
            throws IndexOutOfBoundsException, NoSuchElementException {
        needWalker(walker);
        int cell = needCell(row, column);
        search.findPaths(board, walker);
        return needPath(search.lengths[cell]);
    }

    public int pathLengthByRounds(int walker, int row, int column)
            throws IndexOutOfBoundsException, NoSuchElementException {
        needWalker(walker);
        int cell = needCell(row, column);
        search.findLengthsByRounds(board, walker);
        return needPath(search.roundLengths[cell]);
    }

    public int firstStep(int walker, int row, int column)
            throws IndexOutOfBoundsException, NoSuchElementException {
        needWalker(walker);
        int cell = needCell(row, column);
        search.findPaths(board, walker);
        if (needPath(search.lengths[cell]) == 0) {
            throw new NoSuchElementException("the walker stands in this cell");
        }
        return search.firstSteps[cell];
    }

    public int reachableCells(int walker) throws IndexOutOfBoundsException {
        search.findPaths(board, needWalker(walker));
        return search.countReached();
    }

    public char nearestKey(int walker) throws IndexOutOfBoundsException, NoSuchElementException {
        search.findPaths(board, needWalker(walker));
        int nearest = NONE;
        int shortest = NO_PATH;
        for (int key = 0; key < KEYS; key++) {
            int place = board.keyPlaces[key];
            if (isCell(place) && search.lengths[place] < shortest) {
                nearest = key;
                shortest = search.lengths[place];
            }
        }
        if (nearest == NONE) {
            throw new NoSuchElementException("no key lies where the walker has a path");
        }
        return keyName(nearest);
    }

    public int helpfulShifts(int walker, int row, int column) throws IndexOutOfBoundsException {
        needWalker(walker);
        int cell = needCell(row, column);
        int helpful = 0;
        for (int index = 0; index < SIDE; index++) {
            helpful += countHelpful(walker, cell, index * SIDE, 1);
            helpful += countHelpful(walker, cell, index, SIDE);
        }
        return helpful;
    }

    // ---- totals

    public int shiftCount() {
        return board.shifts;
    }

    public long walkedTotal() {
        return board.walked;
    }

    public double meanOpenings() {
        int sum = 0;
        for (int cell = 0; cell < CELLS; cell++) {
            sum += Integer.bitCount(board.openings[cell]);
        }
        return (double) sum / (double) CELLS;
    }

    public float reachableShare(int walker) throws IndexOutOfBoundsException {
        search.findPaths(board, needWalker(walker));
        return (float) search.countReached() / (float) CELLS;
    }

    public boolean isConsistent() {
        for (int walker = 0; walker < board.walkers; walker++) {
            if (!search.lengthsAgree(board, walker)) {
                return false;
            }
        }
        return board.keyPlacesExist()
                && search.countGroups(board) == search.countGroupsByMerging(board);
    }

    // ---- programs

    public int append(char character) throws IllegalStateException {
        if (!program.add(character)) {
            throw new IllegalStateException("the text buffer is full");
        }
        return program.length;
    }

    public int run() throws IllegalArgumentException, UnsupportedOperationException {
        int error = program.findError();
        if (error != NONE) {
            program.clear();
            storedErrorPosition = error;
            throw new IllegalArgumentException("the text is not a program");
        }
        before.copyFrom(board);
        int failed = findFailure();
        program.clear();
        if (failed != NONE) {
            board.copyFrom(before);
            storedFailedCommand = failed;
            throw new UnsupportedOperationException("a command fails");
        }
        history.add(before);
        return program.commands;
    }

    public int errorPosition() throws NoSuchElementException {
        if (storedErrorPosition == NONE) {
            throw new NoSuchElementException("no error position was stored");
        }
        return storedErrorPosition;
    }

    public int failedCommand() throws NoSuchElementException {
        if (storedFailedCommand == NONE) {
            throw new NoSuchElementException("no failed command was stored");
        }
        return storedFailedCommand;
    }

    // ---- output

    public int writeRow(int row) throws IndexOutOfBoundsException {
        int first = needLine(row) * SIDE;
        lineLength = 0;
        for (int column = 0; column < SIDE; column++) {
            if (column > 0) {
                write(' ');
            }
            writeTile(first + column);
        }
        return lineLength;
    }

    public char outputAt(int index) throws IndexOutOfBoundsException {
        if (index < 0 || index >= lineLength) {
            throw new IndexOutOfBoundsException("no such character of the output line");
        }
        return line[index];
    }

    // ---- undo and snapshot

    public int undo() throws IllegalStateException {
        if (history.count == 0) {
            throw new IllegalStateException("no call can be undone");
        }
        history.takeBack(board);
        return history.count;
    }

    public void save() {
        saved.copyFrom(board);
        hasSaved = true;
    }

    public void restore() throws IllegalStateException {
        if (!hasSaved) {
            throw new IllegalStateException("no state was saved");
        }
        board.copyFrom(saved);
        history.clear();
    }

    // ---- what the calls share

    /** Ends a changing call: throws if the change was refused, else lets it be undone. */
    private int settle(int answer) {
        switch (answer) {
            case NO_SUCH_INDEX:
                throw new IndexOutOfBoundsException("no such cell, row, column or walker");
            case BAD_ARGUMENT:
                throw new IllegalArgumentException("an argument is out of range");
            case BAD_STATE:
                throw new IllegalStateException("the board does not allow this now");
            case UNSUPPORTED:
                throw new UnsupportedOperationException("the tile has a lock");
            case NO_SUCH_ELEMENT:
                throw new NoSuchElementException("the tile has no lock");
            default:
                history.add(before);
                return answer;
        }
    }

    private static int needCell(int row, int column) {
        if (!isLine(row) || !isLine(column)) {
            throw new IndexOutOfBoundsException("no such cell");
        }
        return row * SIDE + column;
    }

    private static int needLine(int index) {
        if (!isLine(index)) {
            throw new IndexOutOfBoundsException("no such row or column");
        }
        return index;
    }

    private int needWalker(int walker) {
        if (!board.isWalker(walker)) {
            throw new IndexOutOfBoundsException("no such walker");
        }
        return walker;
    }

    private static int needKey(char key) {
        if (!isKey(key)) {
            throw new IllegalArgumentException("no such key");
        }
        return key - FIRST_KEY;
    }

    private int needKeyCell(char key) {
        int place = board.keyPlaces[needKey(key)];
        if (!isCell(place)) {
            throw new NoSuchElementException("the key does not lie on a tile");
        }
        return place;
    }

    private static int needPath(int length) {
        if (length >= NO_PATH) {
            throw new NoSuchElementException("there is no path");
        }
        return length;
    }

    private static boolean isLine(int index) {
        return index >= 0 && index < SIDE;
    }

    private static boolean isCell(int place) {
        return place >= 0 && place < CELLS;
    }

    private static boolean isKey(char key) {
        return key >= FIRST_KEY && key < FIRST_KEY + KEYS;
    }

    private static char keyName(int key) {
        return (char) (FIRST_KEY + key);
    }

    /** Counts the shifts of one line by 1 and by -1 after which the walker reaches the cell. */
    private int countHelpful(int walker, int cell, int first, int stride) {
        if (!board.isLineFree(first, stride)) {
            return 0;
        }
        int helpful = 0;
        for (int steps = -1; steps <= 1; steps += 2) {
            trial.copyFrom(board);
            trial.moveLine(first, stride, steps);
            search.findPaths(trial, walker);
            if (search.lengths[cell] < NO_PATH) {
                helpful++;
            }
        }
        return helpful;
    }

    /** Carries out the program; answers the index of the first command that fails, or NONE. */
    private int findFailure() {
        int at = 0;
        for (int index = 0; index < program.commands; index++) {
            int end = program.readCommand(at);
            if (end < 0 || carryOut(program.command, program.values) < 0) {
                return index;
            }
            at = end + 1;
        }
        return NONE;
    }

    private int carryOut(Command command, int[] values) {
        int a = values[0];
        int b = values[1];
        int c = values[2];
        switch (command) {
            case TILE:
                return board.replaceOpenings(a, b, c);
            case TURN:
                return board.turnOpenings(a, b, c);
            case PIN:
                return board.fixTile(a, b);
            case UNPIN:
                return board.freeTile(a, b);
            case ROW:
                return board.moveRow(a, b * c);
            case COLUMN:
                return board.moveColumn(a, b * c);
            case KEY:
                return board.layKey((char) a, b, c);
            case LOCK:
                return board.hangLock(a, b, (char) c);
            case OPEN:
                return board.takeLock(a, b);
            case ENTER:
                return board.enterWalker(a, b);
            default:
                return board.moveWalker(search, a, b, c);
        }
    }

    private void writeTile(int cell) {
        int openings = board.openings[cell];
        write((char) (openings < 10 ? '0' + openings : 'A' + openings - 10));
        if (board.isFixed(cell)) {
            write('*');
        }
        if (board.locks[cell] != NONE) {
            write('#');
            write(keyName(board.locks[cell]));
        }
        if (board.countWalkers(cell) > 0) {
            write('@');
        }
        for (int key = 0; key < KEYS; key++) {
            if (board.keyPlaces[key] == cell) {
                write(keyName(key));
            }
        }
    }

    private void write(char character) {
        if (lineLength < LINE_ROOM) {
            line[lineLength] = character;
            lineLength++;
        }
    }

    /**
     * All that undo, save and restore concern. A cell is told by 5 * row + column, and a row or
     * column by its first cell and the stride from one of its cells to the next.
     */
    private static final class Board {
        final int[] openings = new int[CELLS];
        // The key that fits the lock of each tile, or NONE.
        final int[] locks = new int[CELLS];
        // NONE, the cell in which the key lies, or CELLS + the walker who carries it.
        final int[] keyPlaces = new int[KEYS];
        final int[] walkerCells = new int[WALKERS];
        private final int[] rotated = new int[SIDE];
        // One bit for each pinned tile.
        private int pins = 0;
        int walkers = 0;
        int shifts = 0;
        long walked = 0L;

        Board() {
            Arrays.fill(openings, ALL_OPENINGS);
            Arrays.fill(locks, NONE);
            Arrays.fill(keyPlaces, NONE);
        }

        void copyFrom(Board other) {
            System.arraycopy(other.openings, 0, openings, 0, CELLS);
            System.arraycopy(other.locks, 0, locks, 0, CELLS);
            System.arraycopy(other.keyPlaces, 0, keyPlaces, 0, KEYS);
            System.arraycopy(other.walkerCells, 0, walkerCells, 0, WALKERS);
            pins = other.pins;
            walkers = other.walkers;
            shifts = other.shifts;
            walked = other.walked;
        }

        int replaceOpenings(int row, int column, int replacement) {
            if (!isLine(row) || !isLine(column)) {
                return NO_SUCH_INDEX;
            }
            if (replacement < 0 || replacement > ALL_OPENINGS) {
                return BAD_ARGUMENT;
            }
            int cell = row * SIDE + column;
            int previous = openings[cell];
            openings[cell] = replacement;
            return previous;
        }

        int turnOpenings(int row, int column, int quarterTurns) {
            if (!isLine(row) || !isLine(column)) {
                return NO_SUCH_INDEX;
            }
            if (quarterTurns < 1 || quarterTurns >= DIRECTIONS) {
                return BAD_ARGUMENT;
            }
            int cell = row * SIDE + column;
            if (isFixed(cell)) {
                return BAD_STATE;
            }
            int moved = openings[cell] << quarterTurns;
            openings[cell] = (moved | moved >> DIRECTIONS) & ALL_OPENINGS;
            return openings[cell];
        }

        int fixTile(int row, int column) {
            if (!isLine(row) || !isLine(column)) {
                return NO_SUCH_INDEX;
            }
            int cell = row * SIDE + column;
            if (isFixed(cell)) {
                return BAD_STATE;
            }
            pins |= 1 << cell;
            return Integer.bitCount(pins);
        }

        int freeTile(int row, int column) {
            if (!isLine(row) || !isLine(column)) {
                return NO_SUCH_INDEX;
            }
            int cell = row * SIDE + column;
            if (!isFixed(cell)) {
                return BAD_STATE;
            }
            pins &= ~(1 << cell);
            return Integer.bitCount(pins);
        }

        int moveRow(int row, int steps) {
            return isLine(row) ? moveIfAllowed(row * SIDE, 1, steps) : NO_SUCH_INDEX;
        }

        int moveColumn(int column, int steps) {
            return isLine(column) ? moveIfAllowed(column, SIDE, steps) : NO_SUCH_INDEX;
        }

        int layKey(char key, int row, int column) {
            if (!isKey(key)) {
                return BAD_ARGUMENT;
            }
            if (!isLine(row) || !isLine(column)) {
                return NO_SUCH_INDEX;
            }
            if (keyPlaces[key - FIRST_KEY] != NONE) {
                return BAD_STATE;
            }
            int cell = row * SIDE + column;
            keyPlaces[key - FIRST_KEY] = cell;
            return countKeys(cell);
        }

        int hangLock(int row, int column, char key) {
            if (!isLine(row) || !isLine(column)) {
                return NO_SUCH_INDEX;
            }
            if (!isKey(key)) {
                return BAD_ARGUMENT;
            }
            int cell = row * SIDE + column;
            if (locks[cell] != NONE) {
                return BAD_STATE;
            }
            locks[cell] = key - FIRST_KEY;
            return countLocks();
        }

        int takeLock(int row, int column) {
            if (!isLine(row) || !isLine(column)) {
                return NO_SUCH_INDEX;
            }
            int cell = row * SIDE + column;
            int lock = locks[cell];
            if (lock == NONE) {
                return NO_SUCH_ELEMENT;
            }
            locks[cell] = NONE;
            return keyName(lock);
        }

        int enterWalker(int row, int column) {
            if (!isLine(row) || !isLine(column)) {
                return NO_SUCH_INDEX;
            }
            if (walkers >= WALKERS) {
                return BAD_STATE;
            }
            int cell = row * SIDE + column;
            if (locks[cell] != NONE) {
                return UNSUPPORTED;
            }
            int walker = walkers;
            walkers++;
            bring(walker, cell);
            return walker;
        }

        int moveWalker(Search search, int walker, int row, int column) {
            if (!isWalker(walker) || !isLine(row) || !isLine(column)) {
                return NO_SUCH_INDEX;
            }
            int cell = row * SIDE + column;
            if (walkerCells[walker] == cell) {
                return BAD_ARGUMENT;
            }
            search.findPaths(this, walker);
            int length = search.lengths[cell];
            if (length >= NO_PATH) {
                return BAD_STATE;
            }
            walked += length;
            bring(walker, cell);
            return length;
        }

        /** Moves what lies and stands on a line; no tile of it may be pinned. */
        void moveLine(int first, int stride, int steps) {
            rotate(openings, first, stride, steps);
            rotate(locks, first, stride, steps);
            for (int key = 0; key < KEYS; key++) {
                keyPlaces[key] = placeAfter(keyPlaces[key], first, stride, steps);
            }
            for (int walker = 0; walker < walkers; walker++) {
                walkerCells[walker] = placeAfter(walkerCells[walker], first, stride, steps);
            }
        }

        boolean isLineFree(int first, int stride) {
            for (int index = 0; index < SIDE; index++) {
                if (isFixed(first + index * stride)) {
                    return false;
                }
            }
            return true;
        }

        boolean isFixed(int cell) {
            return (pins >> cell & 1) == 1;
        }

        boolean isWalker(int walker) {
            return walker >= 0 && walker < walkers;
        }

        boolean canEnter(int walker, int cell) {
            int lock = locks[cell];
            return lock == NONE || keyPlaces[lock] == CELLS + walker;
        }

        /** Counts the keys at a place: a cell, or CELLS + a walker. */
        int countKeys(int place) {
            int count = 0;
            for (int key = 0; key < KEYS; key++) {
                if (keyPlaces[key] == place) {
                    count++;
                }
            }
            return count;
        }

        int countWalkers(int cell) {
            int count = 0;
            for (int walker = 0; walker < walkers; walker++) {
                if (walkerCells[walker] == cell) {
                    count++;
                }
            }
            return count;
        }

        /** Answers the neighbour with which the cell is connected in the direction, or NONE. */
        int connectedNeighbour(int cell, int direction) {
            int next = neighbour(cell, direction);
            if (next == NONE) {
                return NONE;
            }
            int opposite = (direction + 2) % DIRECTIONS;
            boolean open = (openings[cell] >> direction & openings[next] >> opposite & 1) == 1;
            return open ? next : NONE;
        }

        // A key has one entry, so it cannot be at two places; the place must also exist.
        boolean keyPlacesExist() {
            for (int key = 0; key < KEYS; key++) {
                int place = keyPlaces[key];
                if (place != NONE && !isCell(place) && !isWalker(place - CELLS)) {
                    return false;
                }
            }
            return true;
        }

        private static int neighbour(int cell, int direction) {
            switch (direction) {
                case 0:
                    return cell >= SIDE ? cell - SIDE : NONE;
                case 1:
                    return cell % SIDE < SIDE - 1 ? cell + 1 : NONE;
                case 2:
                    return cell < CELLS - SIDE ? cell + SIDE : NONE;
                default:
                    return cell % SIDE > 0 ? cell - 1 : NONE;
            }
        }

        private int moveIfAllowed(int first, int stride, int steps) {
            if (steps == 0 || steps <= -SIDE || steps >= SIDE) {
                return BAD_ARGUMENT;
            }
            if (!isLineFree(first, stride)) {
                return BAD_STATE;
            }
            moveLine(first, stride, steps);
            shifts++;
            int count = 0;
            for (int index = 0; index < SIDE; index++) {
                count += countWalkers(first + index * stride);
            }
            return count;
        }

        private void rotate(int[] values, int first, int stride, int steps) {
            for (int index = 0; index < SIDE; index++) {
                rotated[Math.floorMod(index + steps, SIDE)] = values[first + index * stride];
            }
            for (int index = 0; index < SIDE; index++) {
                values[first + index * stride] = rotated[index];
            }
        }

        private static int placeAfter(int place, int first, int stride, int steps) {
            for (int index = 0; index < SIDE; index++) {
                if (place == first + index * stride) {
                    return first + Math.floorMod(index + steps, SIDE) * stride;
                }
            }
            return place;
        }

        /** Lets a walker come to a tile and pick up the keys that lie there. */
        private void bring(int walker, int cell) {
            walkerCells[walker] = cell;
            for (int key = 0; key < KEYS; key++) {
                if (keyPlaces[key] == cell) {
                    keyPlaces[key] = CELLS + walker;
                }
            }
        }

        private int countLocks() {
            int count = 0;
            for (int cell = 0; cell < CELLS; cell++) {
                if (locks[cell] != NONE) {
                    count++;
                }
            }
            return count;
        }
    }

    /** Finds paths and groups of cells; what it found stands until it searches again. */
    private static final class Search {
        // The length of a shortest path to each cell, or NO_PATH.
        final int[] lengths = new int[CELLS];
        final int[] roundLengths = new int[CELLS];
        // The lowest first direction of the shortest paths to each cell.
        final int[] firstSteps = new int[CELLS];
        private final int[] queue = new int[CELLS];
        private final int[] groups = new int[CELLS];

        /** Fills lengths and firstSteps by breadth-first search. */
        void findPaths(Board board, int walker) {
            int start = board.walkerCells[walker];
            Arrays.fill(lengths, NO_PATH);
            lengths[start] = 0;
            queue[0] = start;
            int found = 1;
            for (int head = 0; head < found && head < CELLS; head++) {
                int cell = queue[head];
                for (int direction = 0; direction < DIRECTIONS; direction++) {
                    int next = board.connectedNeighbour(cell, direction);
                    if (next != NONE && lengths[next] == NO_PATH && board.canEnter(walker, next)) {
                        lengths[next] = lengths[cell] + 1;
                        // The queue stays in the order of the first steps, so the first cell
                        // that leads to the next one brings the lowest direction.
                        firstSteps[next] = cell == start ? direction : firstSteps[cell];
                        queue[found] = next;
                        found++;
                    }
                }
            }
        }

        /** Fills roundLengths by lowering them in rounds until nothing changes. */
        void findLengthsByRounds(Board board, int walker) {
            Arrays.fill(roundLengths, NO_PATH);
            roundLengths[board.walkerCells[walker]] = 0;
            boolean changed = true;
            for (int round = 0; changed && round < CELLS; round++) {
                changed = false;
                for (int cell = 0; cell < CELLS; cell++) {
                    if (roundLengths[cell] < NO_PATH && lowerNeighbours(board, walker, cell)) {
                        changed = true;
                    }
                }
            }
        }

        boolean lengthsAgree(Board board, int walker) {
            findPaths(board, walker);
            findLengthsByRounds(board, walker);
            for (int cell = 0; cell < CELLS; cell++) {
                if (lengths[cell] != roundLengths[cell]) {
                    return false;
                }
            }
            return true;
        }

        int countReached() {
            int count = 0;
            for (int cell = 0; cell < CELLS; cell++) {
                if (lengths[cell] < NO_PATH) {
                    count++;
                }
            }
            return count;
        }

        int countGroups(Board board) {
            Arrays.fill(groups, NONE);
            int count = 0;
            for (int cell = 0; cell < CELLS; cell++) {
                if (groups[cell] == NONE) {
                    markGroup(board, cell, count);
                    count++;
                }
            }
            return count;
        }

        int countGroupsByMerging(Board board) {
            for (int cell = 0; cell < CELLS; cell++) {
                groups[cell] = cell;
            }
            int count = CELLS;
            for (int cell = 0; cell < CELLS; cell++) {
                // North and west are the east and south of other cells.
                for (int direction = 1; direction <= 2; direction++) {
                    int next = board.connectedNeighbour(cell, direction);
                    if (next != NONE && groups[next] != groups[cell]) {
                        mergeGroups(groups[next], groups[cell]);
                        count--;
                    }
                }
            }
            return count;
        }

        private boolean lowerNeighbours(Board board, int walker, int cell) {
            boolean lowered = false;
            int length = roundLengths[cell] + 1;
            for (int direction = 0; direction < DIRECTIONS; direction++) {
                int next = board.connectedNeighbour(cell, direction);
                if (next != NONE && length < roundLengths[next] && board.canEnter(walker, next)) {
                    roundLengths[next] = length;
                    lowered = true;
                }
            }
            return lowered;
        }

        private void markGroup(Board board, int start, int group) {
            groups[start] = group;
            queue[0] = start;
            int found = 1;
            for (int head = 0; head < found && head < CELLS; head++) {
                for (int direction = 0; direction < DIRECTIONS; direction++) {
                    int next = board.connectedNeighbour(queue[head], direction);
                    if (next != NONE && groups[next] == NONE) {
                        groups[next] = group;
                        queue[found] = next;
                        found++;
                    }
                }
            }
        }

        private void mergeGroups(int from, int into) {
            for (int cell = 0; cell < CELLS; cell++) {
                if (groups[cell] == from) {
                    groups[cell] = into;
                }
            }
        }
    }

    /** The commands with their patterns: D is a digit, N a number, S a sign and L a letter. */
    private enum Command {
        TILE("tile DD N"),
        TURN("turn DD D"),
        PIN("pin DD"),
        UNPIN("unpin DD"),
        ROW("row DSD"),
        COLUMN("column DSD"),
        KEY("key L DD"),
        LOCK("lock DD L"),
        OPEN("open DD"),
        ENTER("enter DD"),
        WALK("walk D DD");

        final String pattern;

        Command(String pattern) {
            this.pattern = pattern;
        }
    }

    /** The text buffer, and the command of it that was read last. */
    private static final class Program {
        private final char[] text = new char[TEXT_ROOM];
        int length = 0;
        // The number of commands that findError has read.
        int commands = 0;
        Command command = Command.TILE;
        // The digits, numbers, signs (1 or -1) and letters of the command in their order.
        final int[] values = new int[COMMAND_VALUES];

        boolean add(char character) {
            if (length >= TEXT_ROOM) {
                return false;
            }
            text[length] = character;
            length++;
            return true;
        }

        void clear() {
            length = 0;
        }

        /** Reads all commands; answers the error position, or NONE if the text is a program. */
        int findError() {
            commands = 0;
            int at = 0;
            for (int round = 0; round < TEXT_ROOM; round++) {
                int end = readCommand(at);
                if (end < 0) {
                    return ~end;
                }
                commands++;
                if (end >= length) {
                    return NONE;
                }
                if (text[end] != ';') {
                    return end;
                }
                at = end + 1;
            }
            return length;
        }

        /** Reads a command; answers the index behind it, or ~ the error position. */
        int readCommand(int start) {
            int furthest = start;
            for (int index = 0; index < COMMANDS.length; index++) {
                int end = match(COMMANDS[index].pattern, start);
                if (end >= 0) {
                    command = COMMANDS[index];
                    return end;
                }
                furthest = Math.max(furthest, ~end);
            }
            return ~furthest;
        }

        /** Answers the index behind the match, or ~ the index of the first wrong character. */
        private int match(String pattern, int start) {
            int at = start;
            int count = 0;
            for (int index = 0; index < pattern.length(); index++) {
                char kind = pattern.charAt(index);
                if (at >= length || !fits(kind, text[at])) {
                    return ~at;
                }
                int value = valueOf(kind, text[at]);
                at++;
                if (kind == 'N' && at < length && fits('D', text[at])) {
                    value = 10 * value + valueOf('D', text[at]);
                    at++;
                }
                if (isPlaceholder(kind) && count < COMMAND_VALUES) {
                    values[count] = value;
                    count++;
                }
            }
            return at;
        }

        private static boolean isPlaceholder(char kind) {
            return kind == 'D' || kind == 'N' || kind == 'S' || kind == 'L';
        }

        private static boolean fits(char kind, char character) {
            if (kind == 'D' || kind == 'N') {
                return character >= '0' && character <= '9';
            }
            if (kind == 'S') {
                return character == '+' || character == '-';
            }
            if (kind == 'L') {
                return isKey(character);
            }
            return character == kind;
        }

        private static int valueOf(char kind, char character) {
            if (kind == 'D' || kind == 'N') {
                return character - '0';
            }
            if (kind == 'S') {
                return character == '+' ? 1 : -1;
            }
            return character;
        }
    }

    /** The boards before the most recent changing calls. */
    private static final class History {
        private final Board[] boards = new Board[UNDO_ROOM];
        // The slot of the next board; the slots are used in a circle.
        private int next = 0;
        int count = 0;

        History() {
            for (int slot = 0; slot < UNDO_ROOM; slot++) {
                boards[slot] = new Board();
            }
        }

        void add(Board board) {
            boards[next].copyFrom(board);
            next = (next + 1) % UNDO_ROOM;
            count = Math.min(count + 1, UNDO_ROOM);
        }

        /** Takes the most recent board back; there must be one. */
        void takeBack(Board board) {
            next = (next + UNDO_ROOM - 1) % UNDO_ROOM;
            board.copyFrom(boards[next]);
            count--;
        }

        void clear() {
            count = 0;
        }
    }
}
