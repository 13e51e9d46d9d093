/** Tests of the sentences of promises 13 to 25: queries about tiles and about keys. */
public final class QueryBoundaryTest {
    private static final String FIRST_LISTED =
            "If several conditions of a method apply, the exception that is listed first is thrown.";
    private static final String NO_CELL = "Throws `IndexOutOfBoundsException` if there is no such cell";
    private static final String NO_KEY = "Throws `IllegalArgumentException` if there is no such key";
    private static final String KEY = "`key`: the key, 'a' to 'f'";
    private static final String NOT_ON_A_TILE = "Throws `NoSuchElementException` if the key does not lie on a tile";
    private static final String CONNECTED = "Two cells that are neighbours in a direction are connected if the tile of"
            + " the first cell has an opening in this direction and the tile of the second cell has an opening in the"
            + " opposite direction.";
    private static final String GROUPS = "Returns the number of groups of connected cells, where locks do not matter:"
            + " two cells are in the same group if and only if there is a sequence of connected cells between them.";
    private static final String GROUP_COUNT = "Returns the number of groups, 1 to 25.";
    private static final String BY_SEARCH = "regionCount";
    private static final String BY_MERGING = "regionCountByMerging";

    private QueryBoundaryTest() {
    }

    public static void main(String[] args) {
        Sentences.run(QueryBoundaryTest.class);
    }

    // ---- 13: openings

    @Sentence(promise = 13, says = "Returns the openings of a tile.")
    static void openingsAreThoseOfTheTileNow(Bench b) {
        b.does("setTile", 0, 4, 3);
        b.does("setTile", 4, 0, 12);
        b.due(3, "openings", 0, 4);
        b.due(12, "openings", 4, 0);
        b.due(15, "openings", 0, 0);
        b.due(15, "openings", 4, 4);
        b.does("shiftRow", 0, 1);
        b.due(3, "openings", 0, 0);
        b.due(15, "openings", 0, 4);
    }

    @Sentence(promise = 13, says = "Returns the openings, 0 to 15.")
    static void openingsAreFrom0To15(Bench b) {
        for (int openings = 0; openings <= 15; openings++) {
            b.does("setTile", 3, 2, openings);
            b.due(openings, "openings", 3, 2);
        }
    }

    @Sentence(promise = 13, says = NO_CELL)
    static void openingsNeedACell(Bench b) {
        b.refusedCells(0, "openings", 0, 0);
    }

    // ---- 14: isPinned

    @Sentence(promise = 14, says = "Returns whether a tile is pinned.")
    static void aTileIsPinnedUntilItIsUnpinned(Bench b) {
        b.due(false, "isPinned", 4, 4);
        b.does("pin", 4, 4);
        b.due(true, "isPinned", 4, 4);
        b.does("unpin", 4, 4);
        b.due(false, "isPinned", 4, 4);
    }

    @Sentence(promise = 14, says = "Returns true if it is pinned.")
    static void pinsAreSeenOnTheirTilesAlone(Bench b) {
        b.does("pin", 0, 1);
        b.does("pin", 4, 3);
        b.due(true, "isPinned", 0, 1);
        b.due(true, "isPinned", 4, 3);
        b.due(false, "isPinned", 1, 0);
        b.due(false, "isPinned", 3, 4);
        b.due(false, "isPinned", 0, 0);
        b.due(false, "isPinned", 0, 2);
        b.due(false, "isPinned", 1, 1);
        b.due(false, "isPinned", 4, 4);
    }

    @Sentence(promise = 14, says = NO_CELL)
    static void isPinnedNeedsACell(Bench b) {
        b.refusedCells(0, "isPinned", 0, 0);
    }

    // ---- 15 and 16: canShiftRow, canShiftColumn

    @Sentence(promise = 15, says = "Returns whether a row can be shifted.")
    static void canShiftRowTellsWhatShiftRowDoes(Bench b) {
        b.does("pin", 4, 4);
        for (int row = 0; row < Bench.SIDE; row++) {
            b.due(row != 4, "canShiftRow", row);
            b.due(row == 4 ? Bench.STATE : (Object) 0, "shiftRow", row, 1);
        }
        b.does("unpin", 4, 4);
        b.due(true, "canShiftRow", 4);
        b.due(0, "shiftRow", 4, 1);
    }

    @Sentence(promise = 15, says = "Returns true if no tile of the row is pinned.")
    static void anyPinOfTheRowHoldsIt(Bench b) {
        for (int cell = 0; cell < 25; cell++) {
            b.does("pin", cell / 5, cell % 5);
            for (int row = 0; row < Bench.SIDE; row++) {
                b.due(row != cell / 5, "canShiftRow", row);
            }
            b.does("unpin", cell / 5, cell % 5);
        }
        for (int row = 0; row < Bench.SIDE; row++) {
            b.due(true, "canShiftRow", row);
        }
    }

    @Sentence(promise = 15, says = "Throws `IndexOutOfBoundsException` if there is no such row")
    static void canShiftRowNeedsARow(Bench b) {
        b.refusedLines(0, "canShiftRow", 0);
    }

    @Sentence(promise = 16, says = "Returns whether a column can be shifted.")
    static void canShiftColumnTellsWhatShiftColumnDoes(Bench b) {
        b.does("pin", 4, 4);
        for (int column = 0; column < Bench.SIDE; column++) {
            b.due(column != 4, "canShiftColumn", column);
            b.due(column == 4 ? Bench.STATE : (Object) 0, "shiftColumn", column, 1);
        }
        b.does("unpin", 4, 4);
        b.due(true, "canShiftColumn", 4);
        b.due(0, "shiftColumn", 4, 1);
    }

    @Sentence(promise = 16, says = "Returns true if no tile of the column is pinned.")
    static void anyPinOfTheColumnHoldsIt(Bench b) {
        for (int cell = 0; cell < 25; cell++) {
            b.does("pin", cell / 5, cell % 5);
            for (int column = 0; column < Bench.SIDE; column++) {
                b.due(column != cell % 5, "canShiftColumn", column);
            }
            b.does("unpin", cell / 5, cell % 5);
        }
        for (int column = 0; column < Bench.SIDE; column++) {
            b.due(true, "canShiftColumn", column);
        }
    }

    @Sentence(promise = 16, says = "Throws `IndexOutOfBoundsException` if there is no such column")
    static void canShiftColumnNeedsAColumn(Bench b) {
        b.refusedLines(0, "canShiftColumn", 0);
    }

    // ---- 17: hasLock

    @Sentence(promise = 17, says = "Returns whether a tile has a lock.")
    static void aTileHasALockUntilItIsRemoved(Bench b) {
        b.due(false, "hasLock", 0, 0);
        b.does("addLock", 0, 0, 'a');
        b.due(true, "hasLock", 0, 0);
        b.does("removeLock", 0, 0);
        b.due(false, "hasLock", 0, 0);
        b.does("addLock", 0, 0, 'f');
        b.due(true, "hasLock", 0, 0);
    }

    @Sentence(promise = 17, says = "Returns true if it has a lock.")
    static void locksAreSeenOnTheirTilesAlone(Bench b) {
        b.does("addLock", 0, 1, 'a');
        b.does("addLock", 4, 3, 'f');
        b.due(true, "hasLock", 0, 1);
        b.due(true, "hasLock", 4, 3);
        b.due(false, "hasLock", 1, 0);
        b.due(false, "hasLock", 3, 4);
        b.due(false, "hasLock", 0, 0);
        b.due(false, "hasLock", 4, 4);
        // Neither the key nor its carrier makes the lock go away.
        b.does("placeKey", 'a', 0, 0);
        b.does("addWalker", 0, 0);
        b.does("walk", 0, 0, 1);
        b.due(true, "hasLock", 0, 1);
    }

    @Sentence(promise = 17, says = NO_CELL)
    static void hasLockNeedsACell(Bench b) {
        b.does("addLock", 0, 0, 'a');
        b.refusedCells(0, "hasLock", 0, 0);
    }

    // ---- 18: lockAt

    @Sentence(promise = 18, says = "Returns the key that fits the lock of a tile.")
    static void lockAtAnswersKeysFromAToF(Bench b) {
        for (char key = 'a'; key <= 'f'; key++) {
            b.does("addLock", 4, key % 5, key);
            b.due(key, "lockAt", 4, key % 5);
            b.does("removeLock", 4, key % 5);
        }
    }

    @Sentence(promise = 18, says = "Returns the key.")
    static void eachLockKeepsItsKey(Bench b) {
        b.does("addLock", 0, 0, 'f');
        b.does("addLock", 4, 4, 'a');
        b.does("placeKey", 'c', 0, 0);
        b.due('f', "lockAt", 0, 0);
        b.due('a', "lockAt", 4, 4);
        b.does("shiftColumn", 4, 1);
        b.due('a', "lockAt", 0, 4);
        b.due('f', "lockAt", 0, 0);
    }

    @Sentence(promise = 18, says = NO_CELL)
    static void lockAtNeedsACell(Bench b) {
        b.does("addLock", 0, 0, 'a');
        b.does("addLock", 4, 4, 'a');
        b.refusedCells(0, "lockAt", 0, 0);
    }

    @Sentence(promise = 18, says = "Throws `NoSuchElementException` if the tile has no lock")
    static void lockAtNeedsALock(Bench b) {
        b.refused(Bench.ELEMENT, "lockAt", 0, 0);
        b.refused(Bench.ELEMENT, "lockAt", 4, 4);
        b.does("addLock", 1, 2, 'c');
        b.refused(Bench.ELEMENT, "lockAt", 2, 1);
        b.does("removeLock", 1, 2);
        b.refused(Bench.ELEMENT, "lockAt", 1, 2);
    }

    @Sentence(promise = 18, says = FIRST_LISTED)
    static void lockAtLooksForTheCellFirst(Bench b) {
        b.refusedCells(0, "lockAt", 0, 0);
    }

    // ---- 19: keysAt

    @Sentence(promise = 19, says = "Returns the number of keys that lie on a tile.")
    static void carriedKeysDoNotLieOnATile(Bench b) {
        b.does("placeKey", 'a', 2, 2);
        b.does("placeKey", 'b', 2, 2);
        b.does("addWalker", 2, 2);
        b.due(0, "keysAt", 2, 2);
        b.does("placeKey", 'c', 2, 2);
        b.due(1, "keysAt", 2, 2);
        b.does("addLock", 2, 2, 'd');
        b.due(1, "keysAt", 2, 2);
    }

    @Sentence(promise = 19, says = "Returns the number of keys.")
    static void keysAtCountsFrom0To6(Bench b) {
        for (char key = 'a'; key <= 'f'; key++) {
            b.due(key - 'a', "keysAt", 0, 4);
            b.due(0, "keysAt", 4, 0);
            b.does("placeKey", key, 0, 4);
        }
        b.due(6, "keysAt", 0, 4);
        b.due(0, "keysAt", 0, 3);
        b.due(0, "keysAt", 1, 4);
    }

    @Sentence(promise = 19, says = NO_CELL)
    static void keysAtNeedsACell(Bench b) {
        b.does("placeKey", 'a', 0, 0);
        b.refusedCells(0, "keysAt", 0, 0);
    }

    // ---- 20: isConnected

    @Sentence(promise = 20, says = "Returns whether a cell and its neighbour in a direction are connected.")
    static void neighboursInAllDirectionsAreConnected(Bench b) {
        b.everyTile(0);
        b.does("setTile", 2, 2, 15);
        b.does("setTile", 1, 2, 4);
        b.due(true, "isConnected", 2, 2, 0);
        b.due(false, "isConnected", 2, 2, 1);
        b.due(false, "isConnected", 2, 2, 2);
        b.due(false, "isConnected", 2, 2, 3);
        b.does("setTile", 2, 3, 8);
        b.due(true, "isConnected", 2, 2, 1);
        b.due(false, "isConnected", 2, 2, 2);
        b.does("setTile", 3, 2, 1);
        b.due(true, "isConnected", 2, 2, 2);
        b.due(false, "isConnected", 2, 2, 3);
        b.does("setTile", 2, 1, 2);
        b.due(true, "isConnected", 2, 2, 3);
    }

    @Sentence(promise = 20, says = CONNECTED)
    static void bothOpeningsAreNeeded(Bench b) {
        int[][] ways = {{1, 2}, {2, 3}, {3, 2}, {2, 1}};
        int[] numbers = {1, 2, 4, 8};
        for (int direction = 0; direction < 4; direction++) {
            int opposite = (direction + 2) % 4;
            int row = ways[direction][0];
            int column = ways[direction][1];
            b.fresh();
            b.due(true, "isConnected", 2, 2, direction);
            b.due(true, "isConnected", row, column, opposite);
            b.does("setTile", 2, 2, 15 - numbers[direction]);
            b.due(false, "isConnected", 2, 2, direction);
            b.due(false, "isConnected", row, column, opposite);
            b.does("setTile", 2, 2, 15);
            b.does("setTile", row, column, 15 - numbers[opposite]);
            b.due(false, "isConnected", 2, 2, direction);
            b.due(false, "isConnected", row, column, opposite);
            b.does("setTile", 2, 2, numbers[direction]);
            b.does("setTile", row, column, numbers[opposite]);
            b.due(true, "isConnected", 2, 2, direction);
            b.due(true, "isConnected", row, column, opposite);
        }
    }

    @Sentence(promise = 20, says = "`direction`: the direction, 0 to 3")
    static void directionsFrom0To3AreAnswered(Bench b) {
        for (int direction = 0; direction < 4; direction++) {
            b.due(true, "isConnected", 3, 3, direction);
        }
    }

    @Sentence(promise = 20, says = "The directions are 0 (north), 1 (east), 2 (south) and 3 (west).")
    static void eachDirectionLeadsItsWay(Bench b) {
        b.does("setTile", 0, 2, 0);
        b.due(false, "isConnected", 1, 2, 0);
        b.due(true, "isConnected", 1, 2, 1);
        b.due(true, "isConnected", 1, 2, 2);
        b.due(true, "isConnected", 1, 2, 3);
        b.due(false, "isConnected", 0, 3, 3);
        b.due(true, "isConnected", 0, 3, 1);
        b.due(true, "isConnected", 0, 3, 2);
        b.due(false, "isConnected", 0, 1, 1);
        b.due(true, "isConnected", 0, 1, 3);
        b.does("setTile", 4, 2, 0);
        b.due(false, "isConnected", 3, 2, 2);
        b.due(true, "isConnected", 3, 2, 0);
    }

    @Sentence(promise = 20, says = "Row 0 is in the north, column 0 is in the west.")
    static void theCornersHaveTwoNeighboursEach(Bench b) {
        boolean[][] north = {{false, true, true, false}, {false, false, true, true}};
        boolean[][] south = {{true, true, false, false}, {true, false, false, true}};
        for (int direction = 0; direction < 4; direction++) {
            b.due(north[0][direction], "isConnected", 0, 0, direction);
            b.due(north[1][direction], "isConnected", 0, 4, direction);
            b.due(south[0][direction], "isConnected", 4, 0, direction);
            b.due(south[1][direction], "isConnected", 4, 4, direction);
        }
    }

    @Sentence(promise = 20, says = "Returns true if they are connected, false also if there is no such neighbour.")
    static void beyondTheBorderNothingIsConnected(Bench b) {
        for (int index = 0; index < Bench.SIDE; index++) {
            b.due(false, "isConnected", 0, index, 0);
            b.due(false, "isConnected", index, 4, 1);
            b.due(false, "isConnected", 4, index, 2);
            b.due(false, "isConnected", index, 0, 3);
            b.due(true, "isConnected", 1, index, 0);
            b.due(true, "isConnected", index, 3, 1);
            b.due(true, "isConnected", 3, index, 2);
            b.due(true, "isConnected", index, 1, 3);
        }
    }

    @Sentence(promise = 20, says = "Cells at opposite borders of the board are not neighbours.")
    static void oppositeBordersAreNotConnected(Bench b) {
        b.everyTile(5);
        for (int index = 0; index < Bench.SIDE; index++) {
            b.due(false, "isConnected", 0, index, 0);
            b.due(false, "isConnected", 4, index, 2);
        }
        b.everyTile(10);
        for (int index = 0; index < Bench.SIDE; index++) {
            b.due(false, "isConnected", index, 0, 3);
            b.due(false, "isConnected", index, 4, 1);
        }
    }

    @Sentence(promise = 20, says = NO_CELL)
    static void isConnectedNeedsACell(Bench b) {
        for (int direction = 0; direction < 4; direction++) {
            b.refusedCells(0, "isConnected", 0, 0, direction);
        }
    }

    @Sentence(promise = 20, says = "Throws `IllegalArgumentException` if the direction is out of range")
    static void isConnectedNeedsADirectionInRange(Bench b) {
        int[] numbers = {-1, 4, -2, 5, 8, 32, 33, Bench.MIN, Bench.MAX};
        b.refusedNumbers(Bench.ARGUMENT, numbers, 2, "isConnected", 0, 0, 1);
        b.refusedNumbers(Bench.ARGUMENT, numbers, 2, "isConnected", 2, 2, 1);
    }

    @Sentence(promise = 20, says = FIRST_LISTED)
    static void isConnectedLooksForTheCellFirst(Bench b) {
        b.refusedCells(0, "isConnected", 0, 0, 4);
        b.refusedCells(0, "isConnected", 0, 0, -1);
    }

    // ---- 21 and 22: regionCount, regionCountByMerging

    @Sentence(promise = 21, says = GROUPS)
    static void regionCountFollowsWindingWays(Bench b) {
        followsWindingWays(b, BY_SEARCH);
    }

    @Sentence(promise = 21, says = GROUPS)
    static void regionCountFollowsWaysInAllDirections(Bench b) {
        followsWaysInAllDirections(b, BY_SEARCH);
    }

    @Sentence(promise = 21, says = GROUPS)
    static void regionCountDoesNotMindLocks(Bench b) {
        doesNotMindLocks(b, BY_SEARCH);
    }

    @Sentence(promise = 21, says = "It is found by search.")
    static void regionCountBySearchIsTheCountByMerging(Bench b) {
        agrees(b, BY_SEARCH, BY_MERGING);
    }

    @Sentence(promise = 21, says = GROUP_COUNT)
    static void regionCountIsFrom1To25(Bench b) {
        isFrom1To25(b, BY_SEARCH);
    }

    @Sentence(promise = 22, says = "Returns the same number, found by merging the groups of each pair of connected"
            + " neighbours.")
    static void regionCountByMergingIsTheSame(Bench b) {
        agrees(b, BY_MERGING, BY_SEARCH);
    }

    @Sentence(promise = 22, says = GROUPS)
    static void regionCountByMergingFollowsWindingWays(Bench b) {
        followsWindingWays(b, BY_MERGING);
    }

    @Sentence(promise = 22, says = GROUPS)
    static void regionCountByMergingFollowsWaysInAllDirections(Bench b) {
        followsWaysInAllDirections(b, BY_MERGING);
    }

    @Sentence(promise = 22, says = GROUPS)
    static void regionCountByMergingDoesNotMindLocks(Bench b) {
        doesNotMindLocks(b, BY_MERGING);
    }

    @Sentence(promise = 22, says = GROUP_COUNT)
    static void regionCountByMergingIsFrom1To25(Bench b) {
        isFrom1To25(b, BY_MERGING);
    }

    private static void followsWindingWays(Bench b, String method) {
        b.wayThroughAllCells();
        b.due(1, method);
        // Each cut makes one group more, wherever it is.
        b.does("setTile", 4, 4, 8);
        b.due(2, method);
        b.does("setTile", 2, 2, 8);
        b.due(3, method);
        b.does("setTile", 0, 4, 0);
        b.due(4, method);
        b.does("setTile", 2, 2, 0);
        b.due(5, method);
        b.does("setTile", 4, 4, 9);
        b.due(4, method);
    }

    private static void followsWaysInAllDirections(Bench b, String method) {
        b.everyTile(0);
        // From 00 to the south, to the east and to the north again, which 01 needs.
        b.does("setTile", 0, 0, 4);
        b.does("setTile", 1, 0, 3);
        b.does("setTile", 1, 1, 9);
        b.does("setTile", 0, 1, 4);
        b.due(22, method);
        // From 04 to the south and to the west.
        b.does("setTile", 0, 4, 4);
        b.does("setTile", 1, 4, 9);
        b.does("setTile", 1, 3, 2);
        b.due(20, method);
        // The two ways meet in row 2, coming from both sides.
        b.does("setTile", 1, 1, 13);
        b.does("setTile", 1, 3, 6);
        b.does("setTile", 2, 1, 3);
        b.does("setTile", 2, 2, 10);
        b.does("setTile", 2, 3, 9);
        b.due(16, method);
        // A ring is one group, and what it surrounds is another.
        b.everyTile(15);
        b.does("setTile", 2, 2, 0);
        b.due(2, method);
    }

    private static void doesNotMindLocks(Bench b, String method) {
        for (int cell = 0; cell < 25; cell++) {
            b.does("addLock", cell / 5, cell % 5, 'a');
        }
        b.due(1, method);
        b.does("setTile", 0, 0, 0);
        b.due(2, method);
    }

    private static void agrees(Bench b, String method, String other) {
        for (int openings = 0; openings <= 15; openings++) {
            b.everyTile(openings);
            boolean northToSouth = (openings & 5) == 5;
            boolean westToEast = (openings & 10) == 10;
            Object count = b.call(other);
            b.due(count, method);
            b.same(northToSouth && westToEast ? 1 : northToSouth || westToEast ? 5 : 25, count, "groups");
        }
    }

    private static void isFrom1To25(Bench b, String method) {
        b.due(1, method);
        b.everyTile(0);
        b.due(25, method);
        // Openings to the border or to one side alone connect nothing.
        b.does("setTile", 0, 0, 9);
        b.does("setTile", 4, 4, 6);
        b.does("setTile", 2, 2, 15);
        b.due(25, method);
        b.does("setTile", 4, 3, 2);
        b.does("setTile", 4, 4, 14);
        b.due(24, method);
        b.everyTile(15);
        b.due(1, method);
        b.everyTile(10);
        b.due(5, method);
        b.everyTile(5);
        b.due(5, method);
    }

    // ---- 23: keyRow

    @Sentence(promise = 23, says = "Returns the row of a key that lies on a tile.")
    static void keyRowFollowsTheTile(Bench b) {
        b.does("placeKey", 'c', 4, 2);
        b.due(4, "keyRow", 'c');
        b.does("shiftColumn", 2, 1);
        b.due(0, "keyRow", 'c');
        b.does("shiftColumn", 2, -1);
        b.due(4, "keyRow", 'c');
        b.does("shiftRow", 4, 3);
        b.due(4, "keyRow", 'c');
    }

    @Sentence(promise = 23, says = "Returns the row.")
    static void keyRowsAreFrom0To4(Bench b) {
        for (int row = 0; row < Bench.SIDE; row++) {
            b.does("placeKey", (char) ('a' + row), row, 4 - row);
        }
        for (int row = 0; row < Bench.SIDE; row++) {
            b.due(row, "keyRow", (char) ('a' + row));
        }
    }

    @Sentence(promise = 23, says = KEY)
    static void keyRowKnowsKeysFromAToF(Bench b) {
        for (char key = 'a'; key <= 'f'; key++) {
            b.does("placeKey", key, 3, 1);
            b.due(3, "keyRow", key);
        }
    }

    @Sentence(promise = 23, says = NO_KEY)
    static void keyRowNeedsAKey(Bench b) {
        b.does("placeKey", 'a', 0, 0);
        b.does("placeKey", 'f', 0, 0);
        b.refusedKeys(0, "keyRow", 'a');
    }

    @Sentence(promise = 23, says = NOT_ON_A_TILE)
    static void keyRowNeedsAKeyOnATile(Bench b) {
        needsAKeyOnATile(b, "keyRow");
    }

    @Sentence(promise = 23, says = FIRST_LISTED)
    static void keyRowLooksForTheKeyFirst(Bench b) {
        b.refusedKeys(0, "keyRow", 'a');
    }

    // ---- 24: keyColumn

    @Sentence(promise = 24, says = "Returns the column of a key that lies on a tile.")
    static void keyColumnFollowsTheTile(Bench b) {
        b.does("placeKey", 'c', 2, 4);
        b.due(4, "keyColumn", 'c');
        b.does("shiftRow", 2, 1);
        b.due(0, "keyColumn", 'c');
        b.does("shiftRow", 2, -1);
        b.due(4, "keyColumn", 'c');
        b.does("shiftColumn", 4, 3);
        b.due(4, "keyColumn", 'c');
    }

    @Sentence(promise = 24, says = "Returns the column.")
    static void keyColumnsAreFrom0To4(Bench b) {
        for (int column = 0; column < Bench.SIDE; column++) {
            b.does("placeKey", (char) ('a' + column), 4 - column, column);
        }
        for (int column = 0; column < Bench.SIDE; column++) {
            b.due(column, "keyColumn", (char) ('a' + column));
        }
    }

    @Sentence(promise = 24, says = KEY)
    static void keyColumnKnowsKeysFromAToF(Bench b) {
        for (char key = 'a'; key <= 'f'; key++) {
            b.does("placeKey", key, 1, 3);
            b.due(3, "keyColumn", key);
        }
    }

    @Sentence(promise = 24, says = NO_KEY)
    static void keyColumnNeedsAKey(Bench b) {
        b.does("placeKey", 'a', 0, 0);
        b.does("placeKey", 'f', 0, 0);
        b.refusedKeys(0, "keyColumn", 'a');
    }

    @Sentence(promise = 24, says = NOT_ON_A_TILE)
    static void keyColumnNeedsAKeyOnATile(Bench b) {
        needsAKeyOnATile(b, "keyColumn");
    }

    @Sentence(promise = 24, says = FIRST_LISTED)
    static void keyColumnLooksForTheKeyFirst(Bench b) {
        b.refusedKeys(0, "keyColumn", 'a');
    }

    private static void needsAKeyOnATile(Bench b, String method) {
        b.refused(Bench.ELEMENT, method, 'a');
        b.refused(Bench.ELEMENT, method, 'f');
        b.does("placeKey", 'b', 0, 0);
        b.refused(Bench.ELEMENT, method, 'a');
        b.refused(Bench.ELEMENT, method, 'c');
        // Picked up from the first and from the last tile, by the first and by the last walker.
        b.does("addWalker", 0, 0);
        b.refused(Bench.ELEMENT, method, 'b');
        b.does("addWalker", 0, 0);
        b.does("placeKey", 'f', 4, 4);
        b.does("addWalker", 4, 4);
        b.refused(Bench.ELEMENT, method, 'f');
    }

    // ---- 25: carrierOf

    @Sentence(promise = 25, says = "Returns the walker who carries a key.")
    static void theCarrierKeepsTheKey(Bench b) {
        b.does("placeKey", 'c', 1, 1);
        b.does("addWalker", 0, 0);
        b.does("addWalker", 1, 1);
        b.due(1, "carrierOf", 'c');
        b.does("walk", 1, 0, 0);
        b.due(1, "carrierOf", 'c');
        b.does("walk", 0, 1, 1);
        b.does("shiftRow", 0, 1);
        b.due(1, "carrierOf", 'c');
    }

    @Sentence(promise = 25, says = "Returns the index of the walker.")
    static void carriersAreFrom0To2(Bench b) {
        for (int walker = 0; walker < 3; walker++) {
            b.does("placeKey", (char) ('d' + walker), walker, walker);
            b.does("addWalker", walker, walker);
        }
        for (int walker = 0; walker < 3; walker++) {
            b.due(walker, "carrierOf", (char) ('d' + walker));
        }
    }

    @Sentence(promise = 25, says = KEY)
    static void carrierOfKnowsKeysFromAToF(Bench b) {
        for (char key = 'a'; key <= 'f'; key++) {
            b.does("placeKey", key, 3, 3);
        }
        b.does("addWalker", 3, 3);
        for (char key = 'a'; key <= 'f'; key++) {
            b.due(0, "carrierOf", key);
        }
    }

    @Sentence(promise = 25, says = NO_KEY)
    static void carrierOfNeedsAKey(Bench b) {
        b.does("placeKey", 'a', 0, 0);
        b.does("placeKey", 'f', 0, 0);
        b.does("addWalker", 0, 0);
        b.refusedKeys(0, "carrierOf", 'a');
    }

    @Sentence(promise = 25, says = "Throws `NoSuchElementException` if no walker carries the key")
    static void carrierOfNeedsACarrier(Bench b) {
        b.refused(Bench.ELEMENT, "carrierOf", 'a');
        b.refused(Bench.ELEMENT, "carrierOf", 'f');
        b.does("addWalker", 0, 0);
        b.does("addWalker", 4, 4);
        b.refused(Bench.ELEMENT, "carrierOf", 'a');
        // A key at the feet of a walker is not carried.
        b.does("placeKey", 'a', 0, 0);
        b.does("placeKey", 'f', 4, 4);
        b.refused(Bench.ELEMENT, "carrierOf", 'a');
        b.refused(Bench.ELEMENT, "carrierOf", 'f');
        b.does("walk", 0, 4, 4);
        b.due(0, "carrierOf", 'f');
        b.refused(Bench.ELEMENT, "carrierOf", 'a');
    }

    @Sentence(promise = 25, says = FIRST_LISTED)
    static void carrierOfLooksForTheKeyFirst(Bench b) {
        b.refusedKeys(0, "carrierOf", 'a');
    }

    @Sentence(promise = 25, says = "A key is nowhere, as initially, or it lies on a tile, or a walker carries it.")
    static void aKeyIsAtOnePlaceAtATime(Bench b) {
        b.does("placeKey", 'e', 2, 3);
        b.due(2, "keyRow", 'e');
        b.due(3, "keyColumn", 'e');
        b.due(Bench.ELEMENT, "carrierOf", 'e');
        b.does("addWalker", 2, 3);
        b.due(0, "carrierOf", 'e');
        b.due(Bench.ELEMENT, "keyRow", 'e');
        b.due(Bench.ELEMENT, "keyColumn", 'e');
        b.due(0, "keysAt", 2, 3);
    }
}
