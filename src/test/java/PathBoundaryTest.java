/** Tests of the sentences of promises 26 to 40: queries about walkers and paths, and totals. */
public final class PathBoundaryTest {
    private static final String NO_WALKER = "Throws `IndexOutOfBoundsException` if there is no such walker";
    private static final String NO_WALKER_OR_CELL =
            "Throws `IndexOutOfBoundsException` if there is no such walker or cell";
    private static final String FIRST_LISTED =
            "If several conditions of a method apply, the exception that is listed first is thrown.";
    private static final String NO_PATH = "Throws `NoSuchElementException` if there is no path";
    private static final String OWN_CELL = "Returns the length, 0 for the cell of the walker.";
    private static final String PATH = "A path of a walker to a cell is a sequence of connected cells from the cell of"
            + " the walker to this cell, in which the walker can enter each tile but the first one.";
    private static final String FIRST_STEP_FAILS =
            "Throws `NoSuchElementException` if there is no path, or the walker stands in this cell";
    private static final String NEAREST = "Returns the key that lies nearest to a walker: among the keys that lie on"
            + " tiles to which the walker has a path, the one with the shortest path.";
    private static final String NO_NEAREST = "Throws `NoSuchElementException` if there is no such key";
    private static final String HELPFUL = "Returns how many single shifts of a row or column by 1 or -1 steps are"
            + " possible after which a walker would have a path to a cell or stand in it.";
    private static final String SHIFTS_SUCCEEDED = "Returns the number of successful calls of shiftRow and shiftColumn"
            + " and of such commands.";
    private static final String WALKS = "Returns the sum of the lengths of all walks so far.";
    private static final String INVARIANTS = "Checks the invariants: both ways of finding path lengths agree for all"
            + " walkers and cells, both ways of counting groups agree, and each key is at most at one place.";
    private static final String BY_SEARCH = "pathLength";
    private static final String BY_ROUNDS = "pathLengthByRounds";

    private PathBoundaryTest() {
    }

    public static void main(String[] args) {
        Sentences.run(PathBoundaryTest.class);
    }

    // ---- 26: walkerCount

    @Sentence(promise = 26, says = "Returns the number of walkers.")
    static void refusedWalkersAreNotCounted(Bench b) {
        b.does("addLock", 0, 0, 'a');
        b.due(Bench.UNSUPPORTED, "addWalker", 0, 0);
        b.due(Bench.INDEX, "addWalker", 5, 0);
        b.due(0, "walkerCount");
        b.does("addWalker", 1, 1);
        b.due(1, "walkerCount");
        b.does("undo");
        b.due(0, "walkerCount");
    }

    @Sentence(promise = 26, says = "Returns the number, 0 to 3.")
    static void walkersAreCountedFrom0To3(Bench b) {
        for (int count = 0; count < 3; count++) {
            b.due(count, "walkerCount");
            b.does("addWalker", 2, 2);
        }
        b.due(3, "walkerCount");
        b.due(Bench.STATE, "addWalker", 2, 2);
        b.due(3, "walkerCount");
    }

    // ---- 27 and 28: walkerRow, walkerColumn

    @Sentence(promise = 27, says = "Returns the row of a walker.")
    static void walkerRowFollowsTheWalker(Bench b) {
        b.does("addWalker", 4, 2);
        b.due(4, "walkerRow", 0);
        b.does("shiftColumn", 2, 1);
        b.due(0, "walkerRow", 0);
        b.does("walk", 0, 3, 1);
        b.due(3, "walkerRow", 0);
        b.does("shiftRow", 3, 2);
        b.due(3, "walkerRow", 0);
    }

    @Sentence(promise = 27, says = "Returns the row.")
    static void walkerRowsAreFrom0To4(Bench b) {
        for (int row = 0; row < Bench.SIDE; row++) {
            b.fresh();
            b.does("addWalker", row, 4 - row);
            b.due(row, "walkerRow", 0);
        }
    }

    @Sentence(promise = 27, says = NO_WALKER)
    static void walkerRowNeedsAWalker(Bench b) {
        needsAWalker(b, "walkerRow");
    }

    @Sentence(promise = 28, says = "Returns the column of a walker.")
    static void walkerColumnFollowsTheWalker(Bench b) {
        b.does("addWalker", 2, 4);
        b.due(4, "walkerColumn", 0);
        b.does("shiftRow", 2, 1);
        b.due(0, "walkerColumn", 0);
        b.does("walk", 0, 1, 3);
        b.due(3, "walkerColumn", 0);
        b.does("shiftColumn", 3, 2);
        b.due(3, "walkerColumn", 0);
    }

    @Sentence(promise = 28, says = "Returns the column.")
    static void walkerColumnsAreFrom0To4(Bench b) {
        for (int column = 0; column < Bench.SIDE; column++) {
            b.fresh();
            b.does("addWalker", 4 - column, column);
            b.due(column, "walkerColumn", 0);
        }
    }

    @Sentence(promise = 28, says = NO_WALKER)
    static void walkerColumnNeedsAWalker(Bench b) {
        needsAWalker(b, "walkerColumn");
    }

    // ---- 29: keysOf

    @Sentence(promise = 29, says = "Returns the number of keys that a walker carries.")
    static void eachWalkerHasKeysOfItsOwn(Bench b) {
        b.does("placeKey", 'a', 0, 0);
        b.does("placeKey", 'b', 4, 4);
        b.does("placeKey", 'c', 4, 4);
        b.does("addWalker", 0, 0);
        b.does("addWalker", 2, 2);
        b.does("addWalker", 4, 4);
        b.due(1, "keysOf", 0);
        b.due(0, "keysOf", 1);
        b.due(2, "keysOf", 2);
        b.does("placeKey", 'd', 2, 2);
        b.due(0, "keysOf", 1);
    }

    @Sentence(promise = 29, says = "Returns the number of keys, 0 to 6.")
    static void keysAreCountedFrom0To6(Bench b) {
        b.does("addWalker", 0, 0);
        for (char key = 'a'; key <= 'f'; key++) {
            b.due(key - 'a', "keysOf", 0);
            b.does("placeKey", key, key % 2, 1);
            b.does("walk", 0, key % 2, 1);
        }
        b.due(6, "keysOf", 0);
    }

    @Sentence(promise = 29, says = NO_WALKER)
    static void keysOfNeedsAWalker(Bench b) {
        needsAWalker(b, "keysOf");
    }

    // ---- 30 and 31: pathLength, pathLengthByRounds

    @Sentence(promise = 30, says = "Returns the length of a shortest path of a walker to a cell, found by breadth-first"
            + " search.")
    static void pathLengthsAreUpTo24(Bench b) {
        lengthsAreUpTo24(b, BY_SEARCH);
    }

    @Sentence(promise = 30, says = "The length of a path is its number of cells minus 1.")
    static void pathLengthToANeighbourIs1(Bench b) {
        lengthsOnTheOpenBoard(b, BY_SEARCH);
    }

    @Sentence(promise = 30, says = OWN_CELL)
    static void pathLengthToTheOwnCellIs0(Bench b) {
        lengthToTheOwnCellIs0(b, BY_SEARCH);
    }

    @Sentence(promise = 30, says = PATH)
    static void pathLengthMindsLocksButOnTheFirstTile(Bench b) {
        mindsLocks(b, BY_SEARCH);
    }

    @Sentence(promise = 30, says = NO_WALKER_OR_CELL)
    static void pathLengthNeedsAWalker(Bench b) {
        needsAWalkerForACell(b, BY_SEARCH);
    }

    @Sentence(promise = 30, says = NO_WALKER_OR_CELL)
    static void pathLengthNeedsACell(Bench b) {
        needsACell(b, BY_SEARCH);
    }

    @Sentence(promise = 30, says = NO_PATH)
    static void pathLengthNeedsAPath(Bench b) {
        needsAPath(b, BY_SEARCH);
    }

    @Sentence(promise = 30, says = FIRST_LISTED)
    static void pathLengthLooksForWalkerAndCellFirst(Bench b) {
        looksForWalkerAndCellFirst(b, BY_SEARCH);
    }

    @Sentence(promise = 31, says = "Returns the same length, found by lowering the lengths of all cells in rounds until"
            + " nothing changes.")
    static void pathLengthsByRoundsAreUpTo24(Bench b) {
        lengthsAreUpTo24(b, BY_ROUNDS);
    }

    @Sentence(promise = 31, says = "The length of a path is its number of cells minus 1.")
    static void pathLengthByRoundsToANeighbourIs1(Bench b) {
        lengthsOnTheOpenBoard(b, BY_ROUNDS);
    }

    @Sentence(promise = 31, says = OWN_CELL)
    static void pathLengthByRoundsToTheOwnCellIs0(Bench b) {
        lengthToTheOwnCellIs0(b, BY_ROUNDS);
    }

    @Sentence(promise = 31, says = PATH)
    static void pathLengthByRoundsMindsLocksButOnTheFirstTile(Bench b) {
        mindsLocks(b, BY_ROUNDS);
    }

    @Sentence(promise = 31, says = NO_WALKER_OR_CELL)
    static void pathLengthByRoundsNeedsAWalker(Bench b) {
        needsAWalkerForACell(b, BY_ROUNDS);
    }

    @Sentence(promise = 31, says = NO_WALKER_OR_CELL)
    static void pathLengthByRoundsNeedsACell(Bench b) {
        needsACell(b, BY_ROUNDS);
    }

    @Sentence(promise = 31, says = NO_PATH)
    static void pathLengthByRoundsNeedsAPath(Bench b) {
        needsAPath(b, BY_ROUNDS);
    }

    @Sentence(promise = 31, says = FIRST_LISTED)
    static void pathLengthByRoundsLooksForWalkerAndCellFirst(Bench b) {
        looksForWalkerAndCellFirst(b, BY_ROUNDS);
    }

    private static void lengthsAreUpTo24(Bench b, String method) {
        b.wayThroughAllCells();
        b.does("addWalker", 4, 0);
        b.does("addWalker", 0, 4);
        b.does("addWalker", 2, 2);
        for (int cell = 0; cell < 25; cell++) {
            int row = 4 - cell / 5;
            int column = row % 2 == 0 ? cell % 5 : 4 - cell % 5;
            b.due(cell, method, 0, row, column);
            b.due(24 - cell, method, 1, row, column);
            b.due(Math.abs(12 - cell), method, 2, row, column);
        }
    }

    private static void lengthsOnTheOpenBoard(Bench b, String method) {
        b.does("addWalker", 4, 0);
        b.does("addWalker", 2, 2);
        b.does("addWalker", 0, 4);
        for (int row = 0; row < Bench.SIDE; row++) {
            for (int column = 0; column < Bench.SIDE; column++) {
                b.due(4 - row + column, method, 0, row, column);
                b.due(Math.abs(row - 2) + Math.abs(column - 2), method, 1, row, column);
                b.due(row + 4 - column, method, 2, row, column);
            }
        }
    }

    private static void lengthToTheOwnCellIs0(Bench b, String method) {
        b.does("addWalker", 0, 0);
        b.does("addWalker", 4, 4);
        b.due(0, method, 0, 0, 0);
        b.due(0, method, 1, 4, 4);
        // Closed openings and a lock without its key do not matter.
        b.does("setTile", 4, 4, 0);
        b.does("addLock", 4, 4, 'a');
        b.due(0, method, 1, 4, 4);
        b.does("shiftRow", 4, 1);
        b.due(0, method, 1, 4, 0);
    }

    private static void mindsLocks(Bench b, String method) {
        b.wayInRow0();
        b.does("placeKey", 'a', 0, 1);
        b.does("addWalker", 0, 1);
        b.does("addWalker", 0, 1);
        b.does("addLock", 0, 1, 'b');
        b.does("addLock", 0, 2, 'a');
        b.does("addLock", 0, 4, 'a');
        // The first walker has the key; both stand on a tile that they could not enter.
        b.due(1, method, 0, 0, 0);
        b.due(1, method, 0, 0, 2);
        b.due(3, method, 0, 0, 4);
        b.due(1, method, 1, 0, 0);
        b.due(Bench.ELEMENT, method, 1, 0, 2);
        b.due(Bench.ELEMENT, method, 1, 0, 3);
        b.due(Bench.ELEMENT, method, 1, 0, 4);
        // What lies on the way or on the last tile does not help.
        b.does("addLock", 0, 0, 'c');
        b.does("placeKey", 'c', 0, 0);
        b.due(Bench.ELEMENT, method, 0, 0, 0);
        // A lock in the middle of an open board is gone round.
        b.fresh();
        b.does("addWalker", 2, 0);
        b.does("addLock", 2, 1, 'a');
        b.due(4, method, 0, 2, 2);
    }

    private static void needsAWalkerForACell(Bench b, String method) {
        b.refusedWalkers(0, method, 0, 1, 1);
        b.does("addWalker", 0, 0);
        b.refusedWalkers(1, method, 0, 0, 0);
        b.does("addWalker", 1, 1);
        b.does("addWalker", 2, 2);
        b.refusedWalkers(3, method, 0, 1, 1);
    }

    private static void needsACell(Bench b, String method) {
        b.does("addWalker", 2, 2);
        b.refusedCells(1, method, 0, 0, 0);
    }

    private static void needsAPath(Bench b, String method) {
        b.does("addWalker", 0, 0);
        b.does("setTile", 4, 4, 0);
        b.refused(Bench.ELEMENT, method, 0, 4, 4);
        b.does("addLock", 1, 1, 'a');
        b.refused(Bench.ELEMENT, method, 0, 1, 1);
        b.does("setTile", 0, 0, 0);
        for (int cell = 1; cell < 25; cell++) {
            b.due(Bench.ELEMENT, method, 0, cell / 5, cell % 5);
        }
    }

    private static void looksForWalkerAndCellFirst(Bench b, String method) {
        b.does("setTile", 0, 0, 0);
        b.does("addWalker", 0, 0);
        b.refusedWalkers(1, method, 0, 3, 3);
        b.refusedCells(1, method, 0, 0, 0);
    }

    // ---- 32: firstStep

    @Sentence(promise = 32, says = "Returns the direction of the first step of a shortest path of a walker to a cell.")
    static void theFirstStepLeadsOntoAShortestPath(Bench b) {
        b.wayThroughAllCells();
        b.does("addWalker", 4, 2);
        b.does("addWalker", 0, 0);
        b.due(1, "firstStep", 0, 0, 4);
        b.due(1, "firstStep", 0, 3, 2);
        b.due(3, "firstStep", 0, 4, 0);
        b.due(2, "firstStep", 1, 4, 0);
        b.due(1, "firstStep", 1, 0, 4);
        b.does("walk", 1, 2, 4);
        b.due(0, "firstStep", 1, 0, 0);
        b.due(3, "firstStep", 1, 4, 0);
    }

    @Sentence(promise = 32, says = "Of several such directions the one with the lowest number is returned.")
    static void theLowestDirectionIsChosen(Bench b) {
        b.does("addWalker", 2, 2);
        b.due(0, "firstStep", 0, 0, 0);
        b.due(0, "firstStep", 0, 0, 4);
        b.due(1, "firstStep", 0, 4, 4);
        b.due(2, "firstStep", 0, 4, 0);
        // From another corner, both ways are of the same length up to the last step.
        b.does("addWalker", 4, 4);
        b.due(0, "firstStep", 1, 0, 0);
        b.does("addWalker", 0, 0);
        b.due(1, "firstStep", 2, 4, 4);
    }

    @Sentence(promise = 32, says = "Of several such directions the one with the lowest number is returned.")
    static void aLowerDirectionThatIsLongerIsNotChosen(Bench b) {
        b.does("addWalker", 2, 2);
        b.does("addLock", 1, 2, 'a');
        b.does("addLock", 2, 1, 'a');
        // To 00 both shortest ways are locked: now 6 steps lead there through 23 or 32.
        b.due(1, "firstStep", 0, 0, 2);
        b.due(2, "firstStep", 0, 2, 0);
        b.due(1, "firstStep", 0, 0, 4);
        b.due(1, "firstStep", 0, 0, 0);
        b.does("addLock", 2, 3, 'a');
        b.due(2, "firstStep", 0, 0, 0);
        b.due(2, "firstStep", 0, 0, 4);
    }

    @Sentence(promise = 32, says = "Returns the direction, 0 to 3.")
    static void firstStepsAreFrom0To3(Bench b) {
        b.does("addWalker", 2, 2);
        b.due(0, "firstStep", 0, 1, 2);
        b.due(0, "firstStep", 0, 0, 2);
        b.due(1, "firstStep", 0, 2, 3);
        b.due(1, "firstStep", 0, 2, 4);
        b.due(2, "firstStep", 0, 3, 2);
        b.due(2, "firstStep", 0, 4, 2);
        b.due(3, "firstStep", 0, 2, 1);
        b.due(3, "firstStep", 0, 2, 0);
    }

    @Sentence(promise = 32, says = NO_WALKER_OR_CELL)
    static void firstStepNeedsAWalker(Bench b) {
        b.refusedWalkers(0, "firstStep", 0, 1, 1);
        b.does("addWalker", 0, 0);
        b.refusedWalkers(1, "firstStep", 0, 1, 1);
        b.does("addWalker", 0, 0);
        b.does("addWalker", 0, 0);
        b.refusedWalkers(3, "firstStep", 0, 1, 1);
    }

    @Sentence(promise = 32, says = NO_WALKER_OR_CELL)
    static void firstStepNeedsACell(Bench b) {
        needsACell(b, "firstStep");
    }

    @Sentence(promise = 32, says = FIRST_STEP_FAILS)
    static void firstStepNeedsAPath(Bench b) {
        needsAPath(b, "firstStep");
    }

    @Sentence(promise = 32, says = FIRST_STEP_FAILS)
    static void firstStepNeedsAnotherCell(Bench b) {
        b.does("addWalker", 0, 0);
        b.does("addWalker", 4, 4);
        b.refused(Bench.ELEMENT, "firstStep", 0, 0, 0);
        b.refused(Bench.ELEMENT, "firstStep", 1, 4, 4);
        b.due(1, "firstStep", 0, 4, 4);
        // Also after another search has left its steps behind.
        b.does("walk", 0, 4, 4);
        b.refused(Bench.ELEMENT, "firstStep", 0, 4, 4);
    }

    @Sentence(promise = 32, says = FIRST_LISTED)
    static void firstStepLooksForWalkerAndCellFirst(Bench b) {
        looksForWalkerAndCellFirst(b, "firstStep");
    }

    // ---- 33: reachableCells

    @Sentence(promise = 33, says = "Returns the number of cells to which a walker has a path, including the cell of the"
            + " walker.")
    static void theOwnCellIsReachableEvenIfLocked(Bench b) {
        b.does("addWalker", 2, 2);
        b.does("addLock", 2, 2, 'a');
        b.due(25, "reachableCells", 0);
        b.does("addLock", 0, 0, 'a');
        b.due(24, "reachableCells", 0);
        // Cut off without being locked.
        b.does("addLock", 4, 3, 'a');
        b.does("addLock", 3, 4, 'a');
        b.due(21, "reachableCells", 0);
        b.does("addWalker", 4, 4);
        b.due(1, "reachableCells", 1);
    }

    @Sentence(promise = 33, says = "Returns the number of cells, 1 to 25.")
    static void from1To25CellsAreReachable(Bench b) {
        b.does("addWalker", 0, 0);
        b.due(25, "reachableCells", 0);
        b.does("setTile", 0, 0, 0);
        b.due(1, "reachableCells", 0);
        b.does("setTile", 0, 0, 9);
        b.due(1, "reachableCells", 0);
        b.wayThroughAllCells();
        b.due(25, "reachableCells", 0);
        b.does("setTile", 1, 0, 10);
        b.due(5, "reachableCells", 0);
    }

    @Sentence(promise = 33, says = NO_WALKER)
    static void reachableCellsNeedAWalker(Bench b) {
        needsAWalker(b, "reachableCells");
    }

    // ---- 34: nearestKey

    @Sentence(promise = 34, says = NEAREST)
    static void theShortestPathTellsTheNearestKey(Bench b) {
        b.does("addWalker", 0, 0);
        b.does("placeKey", 'a', 4, 4);
        b.due('a', "nearestKey", 0);
        b.does("placeKey", 'b', 4, 3);
        b.due('b', "nearestKey", 0);
        b.does("placeKey", 'f', 0, 1);
        b.due('f', "nearestKey", 0);
        // On the own tile it is nearest of all.
        b.does("placeKey", 'e', 0, 0);
        b.due('e', "nearestKey", 0);
        b.does("setTile", 0, 0, 0);
        b.due('e', "nearestKey", 0);
    }

    @Sentence(promise = 34, says = NEAREST)
    static void theLengthOfThePathCountsAndNotTheDistance(Bench b) {
        b.wayThroughAllCells();
        b.does("addWalker", 4, 0);
        b.does("placeKey", 'a', 3, 0);
        b.does("placeKey", 'b', 4, 4);
        b.due('b', "nearestKey", 0);
        b.does("placeKey", 'c', 0, 4);
        b.does("addWalker", 0, 3);
        b.due('c', "nearestKey", 1);
    }

    @Sentence(promise = 34, says = NEAREST)
    static void keysWithoutPathAreNotNear(Bench b) {
        b.does("addWalker", 0, 0);
        b.does("placeKey", 'a', 0, 1);
        b.does("addLock", 0, 1, 'c');
        b.does("placeKey", 'b', 1, 0);
        b.does("setTile", 1, 0, 0);
        b.does("placeKey", 'f', 4, 4);
        b.due(Bench.ELEMENT, "nearestKey", 0);
        b.does("removeLock", 0, 1);
        b.due('a', "nearestKey", 0);
        b.does("undo");
        b.does("setTile", 1, 0, 15);
        b.due('b', "nearestKey", 0);
    }

    @Sentence(promise = 34, says = "Of several such keys the one that comes first in the alphabet is returned.")
    static void theFirstKeyInTheAlphabetIsChosen(Bench b) {
        b.does("addWalker", 2, 2);
        b.does("placeKey", 'f', 1, 2);
        b.does("placeKey", 'e', 3, 2);
        b.due('e', "nearestKey", 0);
        b.does("placeKey", 'c', 2, 3);
        b.due('c', "nearestKey", 0);
        b.does("placeKey", 'd', 2, 1);
        b.due('c', "nearestKey", 0);
        b.does("placeKey", 'a', 0, 2);
        b.due('c', "nearestKey", 0);
        // Two on the same tile.
        b.does("placeKey", 'b', 1, 2);
        b.due('b', "nearestKey", 0);
    }

    @Sentence(promise = 34, says = "Returns the key.")
    static void eachKeyCanBeTheNearest(Bench b) {
        for (char key = 'a'; key <= 'f'; key++) {
            b.fresh();
            b.does("addWalker", 1, 1);
            b.does("placeKey", key, 3, 3);
            b.due(key, "nearestKey", 0);
        }
    }

    @Sentence(promise = 34, says = NO_WALKER)
    static void nearestKeyNeedsAWalker(Bench b) {
        b.does("placeKey", 'a', 3, 3);
        needsAWalker(b, "nearestKey");
    }

    @Sentence(promise = 34, says = NO_NEAREST)
    static void nearestKeyNeedsAKey(Bench b) {
        b.does("addWalker", 0, 0);
        b.refused(Bench.ELEMENT, "nearestKey", 0);
        b.does("placeKey", 'a', 4, 4);
        b.does("addWalker", 4, 4);
        // Carried keys do not lie on tiles, be the carrier the same walker or another.
        b.refused(Bench.ELEMENT, "nearestKey", 0);
        b.refused(Bench.ELEMENT, "nearestKey", 1);
    }

    @Sentence(promise = 34, says = NO_NEAREST)
    static void nearestKeyNeedsAPath(Bench b) {
        b.does("addWalker", 0, 0);
        b.does("setTile", 0, 0, 0);
        for (char key = 'a'; key <= 'f'; key++) {
            b.does("placeKey", key, 0, 1);
        }
        b.refused(Bench.ELEMENT, "nearestKey", 0);
    }

    @Sentence(promise = 34, says = FIRST_LISTED)
    static void nearestKeyLooksForTheWalkerFirst(Bench b) {
        b.refusedWalkers(0, "nearestKey", 0);
        b.does("addWalker", 0, 0);
        b.refusedWalkers(1, "nearestKey", 0);
    }

    // ---- 35: helpfulShifts

    @Sentence(promise = 35, says = HELPFUL)
    static void shiftsOfTwoStepsDoNotHelp(Bench b) {
        b.everyTile(0);
        b.does("addWalker", 2, 2);
        b.due(1, "helpfulShifts", 0, 2, 3);
        b.due(1, "helpfulShifts", 0, 2, 1);
        b.due(1, "helpfulShifts", 0, 1, 2);
        b.due(1, "helpfulShifts", 0, 3, 2);
        b.due(0, "helpfulShifts", 0, 2, 4);
        b.due(0, "helpfulShifts", 0, 2, 0);
        b.due(0, "helpfulShifts", 0, 0, 2);
        b.due(0, "helpfulShifts", 0, 3, 3);
    }

    @Sentence(promise = 35, says = HELPFUL)
    static void aShiftAcrossTheBorderHelps(Bench b) {
        b.everyTile(0);
        b.does("addWalker", 0, 0);
        b.due(1, "helpfulShifts", 0, 0, 4);
        b.due(1, "helpfulShifts", 0, 4, 0);
        b.due(0, "helpfulShifts", 0, 4, 4);
        b.does("addWalker", 4, 4);
        b.due(1, "helpfulShifts", 1, 4, 0);
        b.due(1, "helpfulShifts", 1, 0, 4);
    }

    @Sentence(promise = 35, says = HELPFUL)
    static void linesWithAPinCannotHelp(Bench b) {
        b.does("addWalker", 0, 0);
        int[] due = {20, 16, 14, 12, 10, 8, 6, 4, 2, 0};
        int[][] pins = {{4, 4}, {4, 0}, {4, 1}, {4, 2}, {4, 3}, {0, 0}, {1, 0}, {2, 0}, {3, 0}};
        b.due(due[0], "helpfulShifts", 0, 2, 2);
        for (int index = 0; index < pins.length; index++) {
            b.does("pin", pins[index][0], pins[index][1]);
            b.due(due[index + 1], "helpfulShifts", 0, 2, 2);
        }
    }

    @Sentence(promise = 35, says = HELPFUL)
    static void theWalkerMayStandInTheCellAfterwards(Bench b) {
        b.everyTile(0);
        b.does("addWalker", 0, 0);
        b.does("addLock", 0, 1, 'a');
        // A locked tile in the cell goes away with the shift, and the walker comes instead.
        b.due(1, "helpfulShifts", 0, 0, 1);
        // In the own cell the walker stays unless its own row or column is shifted.
        b.due(16, "helpfulShifts", 0, 0, 0);
    }

    @Sentence(promise = 35, says = HELPFUL)
    static void aShiftThatOpensThePathHelps(Bench b) {
        b.everyTile(0);
        b.does("setTile", 0, 0, 2);
        b.does("setTile", 1, 1, 8);
        b.does("addWalker", 0, 0);
        // Column 1 to the north brings the open tile to 01, and row 0 to the east the walker.
        b.due(2, "helpfulShifts", 0, 0, 1);
        b.does("pin", 4, 1);
        b.due(1, "helpfulShifts", 0, 0, 1);
        b.does("pin", 0, 4);
        b.due(0, "helpfulShifts", 0, 0, 1);
    }

    @Sentence(promise = 35, says = "The walker moves with the tile; the cell stays the same.")
    static void theCellIsNotShifted(Bench b) {
        b.does("addWalker", 0, 0);
        b.does("addLock", 2, 2, 'a');
        // The lock leaves the cell with its row and its column, each in both ways.
        b.due(4, "helpfulShifts", 0, 2, 2);
        b.fresh();
        b.everyTile(0);
        b.does("addWalker", 2, 2);
        b.due(16, "helpfulShifts", 0, 2, 2);
        b.due(1, "helpfulShifts", 0, 2, 3);
    }

    @Sentence(promise = 35, says = HELPFUL)
    static void aShiftedLockOpensForItsKeyAlone(Bench b) {
        b.everyTile(0);
        b.does("setTile", 0, 0, 2);
        b.does("setTile", 4, 1, 8);
        b.does("addLock", 4, 1, 'a');
        b.does("placeKey", 'a', 0, 0);
        b.does("addWalker", 0, 0);
        b.does("addWalker", 0, 0);
        // Row 0 to the east brings the walker; column 1 to the south brings the locked tile, for the carrier.
        b.due(2, "helpfulShifts", 0, 0, 1);
        b.due(1, "helpfulShifts", 1, 0, 1);
    }

    @Sentence(promise = 35, says = "Returns the number of shifts, 0 to 20.")
    static void helpfulShiftsAreFrom0To20(Bench b) {
        b.does("addWalker", 0, 0);
        b.due(20, "helpfulShifts", 0, 4, 4);
        b.due(20, "helpfulShifts", 0, 0, 0);
        for (int index = 0; index < Bench.SIDE; index++) {
            b.does("pin", index, index);
        }
        // Without a shift that is possible none helps, not even to the own cell.
        b.due(0, "helpfulShifts", 0, 4, 4);
        b.due(0, "helpfulShifts", 0, 0, 0);
    }

    @Sentence(promise = 35, says = NO_WALKER_OR_CELL)
    static void helpfulShiftsNeedAWalker(Bench b) {
        needsAWalkerForACell(b, "helpfulShifts");
    }

    @Sentence(promise = 35, says = NO_WALKER_OR_CELL)
    static void helpfulShiftsNeedACell(Bench b) {
        needsACell(b, "helpfulShifts");
    }

    @Sentence(promise = 35, says = HELPFUL)
    static void helpfulShiftsAreOnlyTried(Bench b) {
        b.does("setTile", 1, 2, 3);
        b.does("placeKey", 'b', 1, 2);
        b.does("addLock", 2, 1, 'c');
        b.does("addWalker", 1, 1);
        String state = b.wholeState();
        b.due(20, "helpfulShifts", 0, 0, 0);
        b.same(state, b.wholeState(), "the state after helpfulShifts");
    }

    // ---- 36: shiftCount

    @Sentence(promise = 36, says = "Returns the number of shifts so far.")
    static void shiftsAreCountedFrom0(Bench b) {
        b.due(0, "shiftCount");
        b.does("shiftRow", 0, 4);
        b.due(1, "shiftCount");
        b.does("shiftColumn", 0, -4);
        b.due(2, "shiftCount");
        b.does("turnTile", 0, 0, 1);
        b.does("addWalker", 0, 0);
        b.does("helpfulShifts", 0, 4, 4);
        b.due(2, "shiftCount");
    }

    @Sentence(promise = 36, says = SHIFTS_SUCCEEDED)
    static void refusedShiftsAreNotCounted(Bench b) {
        b.does("pin", 1, 1);
        b.due(Bench.STATE, "shiftRow", 1, 1);
        b.due(Bench.STATE, "shiftColumn", 1, 1);
        b.due(Bench.ARGUMENT, "shiftRow", 0, 0);
        b.due(Bench.ARGUMENT, "shiftColumn", 0, 5);
        b.due(Bench.INDEX, "shiftRow", 5, 1);
        b.due(Bench.INDEX, "shiftColumn", -1, 1);
        b.due(0, "shiftCount");
        b.does("shiftColumn", 0, 1);
        b.due(1, "shiftCount");
    }

    @Sentence(promise = 36, says = SHIFTS_SUCCEEDED)
    static void shiftsOfAProgramAreCounted(Bench b) {
        b.dueRun(3, "row 0+1;column 4-4;row 0-1");
        b.due(3, "shiftCount");
        b.dueFailure(2, "row 0+1;column 0+1;row 0+0");
        b.due(3, "shiftCount");
        b.does("undo");
        b.due(0, "shiftCount");
    }

    // ---- 37: walkedTotal

    @Sentence(promise = 37, says = WALKS)
    static void walksAreSummedUp(Bench b) {
        b.does("addWalker", 0, 0);
        b.does("addWalker", 4, 4);
        b.due(8, "walk", 0, 4, 4);
        b.due(8L, "walkedTotal");
        b.due(1, "walk", 1, 4, 3);
        b.due(9L, "walkedTotal");
        // A shift is no walk.
        b.does("shiftRow", 4, 1);
        b.does("shiftColumn", 0, 1);
        b.due(9L, "walkedTotal");
    }

    @Sentence(promise = 37, says = WALKS)
    static void refusedWalksAreNotSummedUp(Bench b) {
        b.does("addWalker", 0, 0);
        b.does("setTile", 4, 4, 0);
        b.due(Bench.STATE, "walk", 0, 4, 4);
        b.due(Bench.ARGUMENT, "walk", 0, 0, 0);
        b.due(Bench.INDEX, "walk", 1, 0, 1);
        b.due(Bench.INDEX, "walk", 0, 0, 5);
        b.does("pathLength", 0, 4, 3);
        b.due(0L, "walkedTotal");
        b.dueFailure(1, "walk 0 43;walk 0 44");
        b.due(0L, "walkedTotal");
        b.dueRun(2, "walk 0 43;walk 0 03");
        b.due(11L, "walkedTotal");
        b.does("undo");
        b.due(0L, "walkedTotal");
    }

    @Sentence(promise = 37, says = "Returns the sum.")
    static void theSumStartsWith0AndGrowsLarge(Bench b) {
        b.due(0L, "walkedTotal");
        b.wayThroughAllCells();
        b.does("addWalker", 4, 0);
        for (int count = 1; count <= 100; count++) {
            b.does("walk", 0, count % 2 == 0 ? 4 : 0, count % 2 == 0 ? 0 : 4);
        }
        b.due(2400L, "walkedTotal");
    }

    // ---- 38: meanOpenings

    @Sentence(promise = 38, says = "Returns the mean number of openings of the tiles.")
    static void theMeanIsFrom0To4(Bench b) {
        b.due(4.0, "meanOpenings");
        b.everyTile(0);
        b.due(0.0, "meanOpenings");
        b.everyTile(8);
        b.due(1.0, "meanOpenings");
    }

    @Sentence(promise = 38, says = "Returns the number of openings of all tiles divided by 25, both converted to"
            + " double.")
    static void theMeanIsNotRounded(Bench b) {
        b.everyTile(0);
        b.does("setTile", 4, 4, 4);
        b.due(1.0 / 25.0, "meanOpenings");
        b.does("setTile", 0, 0, 3);
        b.due(3.0 / 25.0, "meanOpenings");
        b.does("setTile", 2, 2, 15);
        b.due(7.0 / 25.0, "meanOpenings");
        b.everyTile(15);
        b.does("setTile", 0, 0, 7);
        b.due(99.0 / 25.0, "meanOpenings");
    }

    // ---- 39: reachableShare

    @Sentence(promise = 39, says = "Returns the share of the cells to which a walker has a path, including the cell of"
            + " the walker.")
    static void theShareIsFrom1Of25To1(Bench b) {
        b.does("addWalker", 0, 0);
        b.due(1.0f, "reachableShare", 0);
        b.does("setTile", 0, 0, 0);
        b.due(1.0f / 25.0f, "reachableShare", 0);
        b.does("addLock", 0, 0, 'a');
        b.due(1.0f / 25.0f, "reachableShare", 0);
    }

    @Sentence(promise = 39, says = "Returns the number of these cells divided by 25, both converted to float.")
    static void theShareIsNotRounded(Bench b) {
        b.wayThroughAllCells();
        b.does("addWalker", 4, 0);
        for (int cell = 24; cell > 0; cell--) {
            int row = 4 - cell / 5;
            b.does("setTile", row, row % 2 == 0 ? cell % 5 : 4 - cell % 5, 0);
            b.due((float) cell / 25.0f, "reachableShare", 0);
        }
    }

    @Sentence(promise = 39, says = NO_WALKER)
    static void reachableShareNeedsAWalker(Bench b) {
        needsAWalker(b, "reachableShare");
    }

    // ---- 40: isConsistent

    @Sentence(promise = 40, says = INVARIANTS)
    static void theInvariantsHoldOnFullAndEmptyBoards(Bench b) {
        b.due(true, "isConsistent");
        for (char key = 'a'; key <= 'f'; key++) {
            b.does("placeKey", key, 2, 2);
        }
        b.due(true, "isConsistent");
        for (int walker = 0; walker < 3; walker++) {
            b.does("addWalker", 2, walker + 1);
        }
        b.due(true, "isConsistent");
        for (int cell = 0; cell < 25; cell++) {
            b.does("addLock", cell / 5, cell % 5, (char) ('a' + cell % 6));
        }
        b.due(true, "isConsistent");
        b.everyTile(0);
        b.due(true, "isConsistent");
        b.wayThroughAllCells();
        b.due(true, "isConsistent");
    }

    @Sentence(promise = 40, says = INVARIANTS)
    static void theInvariantsHoldForWalkersInGroupsOfAllSizes(Bench b) {
        // Row 0 and column 4 below it are ways of their own, and the rest is open.
        for (int column = 0; column < Bench.SIDE; column++) {
            b.does("setTile", 0, column, 10);
        }
        for (int row = 1; row < Bench.SIDE; row++) {
            b.does("setTile", row, 4, 5);
        }
        int[][] cells = {{2, 1}, {0, 2}, {3, 4}};
        for (int first = 0; first < 3; first++) {
            for (int walker = 0; walker < 3; walker++) {
                int[] cell = cells[(first + walker) % 3];
                b.does("addWalker", cell[0], cell[1]);
                b.due(true, "isConsistent");
            }
            b.does("undo");
            b.does("undo");
            b.does("undo");
        }
        b.does("addWalker", 2, 1);
        b.does("addWalker", 4, 4);
        b.does("addLock", 3, 4, 'a');
        b.due(true, "isConsistent");
    }

    @Sentence(promise = 40, says = "Returns true if all invariants hold.")
    static void theInvariantsHoldAfterEachKindOfCall(Bench b) {
        b.does("save");
        b.does("placeKey", 'a', 0, 1);
        b.does("addWalker", 0, 0);
        b.does("walk", 0, 0, 1);
        b.does("shiftColumn", 1, -1);
        b.due(true, "isConsistent");
        b.due(Bench.STATE, "placeKey", 'a', 0, 0);
        b.dueFailure(1, "pin 00;pin 00");
        b.due(true, "isConsistent");
        b.does("undo");
        b.due(true, "isConsistent");
        b.does("restore");
        b.due(true, "isConsistent");
        b.dueRun(2, "enter 44;row 4+4");
        b.due(true, "isConsistent");
    }

    // ---- what the tests share

    /** Refuses the query while there are 0, 1, 2 and 3 walkers, for each index that is not one of theirs. */
    private static void needsAWalker(Bench b, String method) {
        for (int walkers = 0; walkers <= 3; walkers++) {
            b.refusedWalkers(walkers, method, 0);
            if (walkers < 3) {
                b.does("addWalker", walkers, walkers);
            }
        }
    }
}
