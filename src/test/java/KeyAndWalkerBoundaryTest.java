/** Tests of the sentences of promises 8 to 12: keys, locks and walkers. */
public final class KeyAndWalkerBoundaryTest {
    private static final String FIRST_LISTED =
            "If several conditions of a method apply, the exception that is listed first is thrown.";
    private static final String NOTHING_CHANGES = "If a call throws an exception, nothing changes, except that run"
            + " empties the text buffer and stores the error position or the failed command.";
    private static final String NO_CELL = "Throws `IndexOutOfBoundsException` if there is no such cell";
    private static final String NO_KEY = "Throws `IllegalArgumentException` if there is no such key";
    private static final String NO_WALKER_OR_CELL =
            "Throws `IndexOutOfBoundsException` if there is no such walker or cell";
    private static final String KEY_IS_SOMEWHERE =
            "Throws `IllegalStateException` if the key lies on a tile, or a walker carries it";
    private static final String ENTERING =
            "A walker can enter a tile with a lock only if the walker carries the key that fits it.";
    private static final String PICKING_UP =
            "When a walker comes to a tile, the walker picks up all keys that lie on it.";
    private static final String WALKING = "When a walker walks to a cell, a shortest path is used, keys are picked up"
            + " only on the last tile, and keys that would be picked up do not help on the way.";
    private static final String PATH = "A path of a walker to a cell is a sequence of connected cells from the cell of"
            + " the walker to this cell, in which the walker can enter each tile but the first one.";
    private static final String NO_PATH = "Throws `IllegalStateException` if there is no path";

    private KeyAndWalkerBoundaryTest() {
    }

    public static void main(String[] args) {
        Sentences.run(KeyAndWalkerBoundaryTest.class);
    }

    // ---- 8: placeKey

    @Sentence(promise = 8, says = "Places a key that is nowhere on a tile.")
    static void aKeyLiesWhereItWasPlaced(Bench b) {
        b.does("placeKey", 'a', 0, 4);
        b.due(0, "keyRow", 'a');
        b.due(4, "keyColumn", 'a');
        b.does("placeKey", 'f', 4, 0);
        b.due(4, "keyRow", 'f');
        b.due(0, "keyColumn", 'f');
        b.due(Bench.ELEMENT, "keyRow", 'b');
    }

    @Sentence(promise = 8, says = "Places a key that is nowhere on a tile.")
    static void aKeyIsNowhereAgainAfterUndo(Bench b) {
        b.does("placeKey", 'a', 0, 0);
        b.does("undo");
        b.due(1, "placeKey", 'a', 1, 1);
        b.due(1, "keyRow", 'a');
    }

    @Sentence(promise = 8, says = "Places a key that is nowhere on a tile.")
    static void aKeyLiesOnLockedPinnedAndClosedTilesToo(Bench b) {
        b.does("addLock", 2, 2, 'a');
        b.does("pin", 2, 2);
        b.does("setTile", 2, 2, 0);
        b.due(1, "placeKey", 'a', 2, 2);
        b.due(2, "keyRow", 'a');
    }

    @Sentence(promise = 8, says = "Walkers who stand there do not pick it up before they come to the tile again.")
    static void aWalkerDoesNotPickUpWhatIsPlaced(Bench b) {
        b.does("addWalker", 2, 2);
        b.does("addWalker", 2, 2);
        b.due(1, "placeKey", 'c', 2, 2);
        b.due(0, "keysOf", 0);
        b.due(0, "keysOf", 1);
        b.due(1, "keysAt", 2, 2);
        b.does("walk", 1, 2, 3);
        b.due(0, "keysOf", 1);
        b.does("walk", 1, 2, 2);
        b.due(1, "carrierOf", 'c');
        b.due(0, "keysOf", 0);
    }

    @Sentence(promise = 8, says = "`key`: the key, 'a' to 'f'")
    static void keysFromAToFArePlaced(Bench b) {
        for (char key = 'a'; key <= 'f'; key++) {
            b.fresh();
            b.due(1, "placeKey", key, 4, key % 5);
            b.due(key % 5, "keyColumn", key);
        }
    }

    @Sentence(promise = 8, says = "There are the keys 'a' to 'f'.")
    static void thereAreSixKeys(Bench b) {
        for (char key = 'a'; key <= 'f'; key++) {
            b.does("placeKey", key, 1, 3);
        }
        b.due(6, "keysAt", 1, 3);
        b.refused(Bench.ARGUMENT, "placeKey", '`', 1, 3);
        b.refused(Bench.ARGUMENT, "placeKey", 'g', 1, 3);
    }

    @Sentence(promise = 8, says = "Several keys can lie on the same tile.")
    static void allKeysLieOnOneTile(Bench b) {
        for (char key = 'a'; key <= 'f'; key++) {
            b.does("placeKey", key, 0, 0);
        }
        b.due(6, "keysAt", 0, 0);
        for (char key = 'a'; key <= 'f'; key++) {
            b.due(0, "keyRow", key);
        }
    }

    @Sentence(promise = 8, says = "Returns the number of keys that lie on the tile after the call.")
    static void placeKeyCountsFrom1To6(Bench b) {
        for (char key = 'f'; key >= 'a'; key--) {
            b.due('f' - key + 1, "placeKey", key, 4, 4);
        }
        b.fresh();
        b.due(1, "placeKey", 'a', 0, 0);
        b.due(1, "placeKey", 'b', 0, 1);
        b.due(2, "placeKey", 'c', 0, 0);
        // What a walker has picked up lies there no longer.
        b.does("addWalker", 0, 0);
        b.due(1, "placeKey", 'd', 0, 0);
    }

    @Sentence(promise = 8, says = NO_KEY)
    static void placeKeyNeedsAKey(Bench b) {
        b.refusedKeys(0, "placeKey", 'a', 0, 0);
    }

    @Sentence(promise = 8, says = NO_CELL)
    static void placeKeyNeedsACell(Bench b) {
        b.refusedCells(1, "placeKey", 'a', 0, 0);
        b.due(1, "placeKey", 'a', 0, 0);
    }

    @Sentence(promise = 8, says = KEY_IS_SOMEWHERE)
    static void aKeyOnATileIsNotPlaced(Bench b) {
        b.does("placeKey", 'f', 4, 4);
        b.does("placeKey", 'a', 0, 0);
        b.refused(Bench.STATE, "placeKey", 'f', 4, 4);
        b.refused(Bench.STATE, "placeKey", 'f', 1, 2);
        b.refused(Bench.STATE, "placeKey", 'a', 1, 2);
    }

    @Sentence(promise = 8, says = KEY_IS_SOMEWHERE)
    static void aCarriedKeyIsNotPlaced(Bench b) {
        b.does("placeKey", 'a', 0, 0);
        b.does("addWalker", 0, 0);
        b.refused(Bench.STATE, "placeKey", 'a', 0, 0);
        b.refused(Bench.STATE, "placeKey", 'a', 4, 4);
        b.does("addWalker", 0, 1);
        b.does("placeKey", 'b', 0, 2);
        b.does("walk", 1, 0, 2);
        b.refused(Bench.STATE, "placeKey", 'b', 3, 3);
    }

    @Sentence(promise = 8, says = FIRST_LISTED)
    static void placeKeyLooksForKeyThenCellThenPlace(Bench b) {
        b.does("placeKey", 'a', 0, 0);
        b.refusedKeys(0, "placeKey", 'a', 5, 0);
        b.refusedKeys(0, "placeKey", 'a', 0, -1);
        b.refusedCells(1, "placeKey", 'a', 0, 0);
    }

    // ---- 9: addLock

    @Sentence(promise = 9, says = "Adds a lock to a tile.")
    static void onlyThisTileGetsALock(Bench b) {
        b.does("addLock", 0, 4, 'b');
        b.does("addLock", 4, 0, 'e');
        for (int row = 0; row < Bench.SIDE; row++) {
            for (int column = 0; column < Bench.SIDE; column++) {
                b.due(row + column == 4 && (row == 0 || row == 4), "hasLock", row, column);
            }
        }
        b.due('b', "lockAt", 0, 4);
        b.due('e', "lockAt", 4, 0);
    }

    @Sentence(promise = 9, says = "Walkers who stand there stay.")
    static void walkersOnATileThatIsLockedStay(Bench b) {
        b.does("addWalker", 3, 1);
        b.does("addWalker", 3, 1);
        b.does("addLock", 3, 1, 'a');
        for (int walker = 0; walker < 2; walker++) {
            b.due(3, "walkerRow", walker);
            b.due(1, "walkerColumn", walker);
            b.due(0, "pathLength", walker, 3, 1);
        }
        // They can leave, but not come back.
        b.due(1, "walk", 0, 3, 2);
        b.due(Bench.STATE, "walk", 0, 3, 1);
    }

    @Sentence(promise = 9, says = "`key`: the key that fits it, 'a' to 'f'")
    static void locksFitKeysFromAToF(Bench b) {
        for (char key = 'a'; key <= 'f'; key++) {
            b.does("addLock", 2, 4, key);
            b.due(key, "lockAt", 2, 4);
            b.does("removeLock", 2, 4);
        }
    }

    @Sentence(promise = 9, says = "Returns the number of locks on the board after the call.")
    static void addLockCountsFrom1To25(Bench b) {
        for (int count = 1; count <= 25; count++) {
            b.due(count, "addLock", (count - 1) % 5, (count - 1) / 5, (char) ('a' + count % 6));
        }
        b.does("removeLock", 0, 0);
        b.does("removeLock", 4, 4);
        b.due(24, "addLock", 4, 4, 'f');
    }

    @Sentence(promise = 9, says = NO_CELL)
    static void addLockNeedsACell(Bench b) {
        b.refusedCells(0, "addLock", 0, 0, 'a');
    }

    @Sentence(promise = 9, says = NO_KEY)
    static void addLockNeedsAKey(Bench b) {
        b.refusedKeys(2, "addLock", 0, 0, 'a');
    }

    @Sentence(promise = 9, says = "Throws `IllegalStateException` if the tile has a lock")
    static void aLockedTileGetsNoOtherLock(Bench b) {
        b.does("addLock", 4, 4, 'a');
        for (char key = 'a'; key <= 'f'; key++) {
            b.refused(Bench.STATE, "addLock", 4, 4, key);
        }
        b.does("addLock", 0, 0, 'f');
        b.refused(Bench.STATE, "addLock", 0, 0, 'f');
    }

    @Sentence(promise = 9, says = "A tile can have one lock, which fits one of the keys.")
    static void onAFullBoardNoLockIsAdded(Bench b) {
        for (int cell = 0; cell < 25; cell++) {
            b.does("addLock", cell / 5, cell % 5, 'c');
        }
        for (int cell = 0; cell < 25; cell++) {
            b.due(Bench.STATE, "addLock", cell / 5, cell % 5, 'd');
            b.due('c', "lockAt", cell / 5, cell % 5);
        }
    }

    @Sentence(promise = 9, says = "Several tiles can have locks for the same key.")
    static void allTilesHaveLocksForOneKey(Bench b) {
        for (int cell = 0; cell < 25; cell++) {
            b.due(cell + 1, "addLock", cell / 5, cell % 5, 'f');
        }
        b.does("removeLock", 2, 2);
        b.due('f', "lockAt", 2, 3);
    }

    @Sentence(promise = 9, says = FIRST_LISTED)
    static void addLockLooksForCellThenKeyThenLock(Bench b) {
        b.does("addLock", 1, 1, 'a');
        b.refusedCells(0, "addLock", 0, 0, 'g');
        b.refusedKeys(2, "addLock", 1, 1, 'a');
    }

    // ---- 10: removeLock

    @Sentence(promise = 10, says = "Removes the lock of a tile.")
    static void onlyThisLockIsRemoved(Bench b) {
        b.does("addLock", 1, 1, 'a');
        b.does("addLock", 1, 2, 'a');
        b.does("addLock", 2, 1, 'a');
        b.does("removeLock", 1, 1);
        b.due(false, "hasLock", 1, 1);
        b.due(true, "hasLock", 1, 2);
        b.due(true, "hasLock", 2, 1);
        b.due(3, "addLock", 0, 0, 'b');
    }

    @Sentence(promise = 10, says = "Returns the key that fits the removed lock.")
    static void removeLockAnswersKeysFromAToF(Bench b) {
        for (char key = 'a'; key <= 'f'; key++) {
            b.does("addLock", 0, 4, key);
            b.due(key, "removeLock", 0, 4);
        }
    }

    @Sentence(promise = 10, says = NO_CELL)
    static void removeLockNeedsACell(Bench b) {
        b.does("addLock", 0, 0, 'a');
        b.does("addLock", 0, 4, 'a');
        b.does("addLock", 4, 4, 'a');
        b.refusedCells(0, "removeLock", 0, 0);
    }

    @Sentence(promise = 10, says = "Throws `NoSuchElementException` if the tile has no lock")
    static void noLockIsRemovedWhereNoneIs(Bench b) {
        b.refused(Bench.ELEMENT, "removeLock", 0, 0);
        b.refused(Bench.ELEMENT, "removeLock", 4, 4);
        b.does("addLock", 1, 2, 'a');
        b.refused(Bench.ELEMENT, "removeLock", 2, 1);
        b.does("removeLock", 1, 2);
        b.refused(Bench.ELEMENT, "removeLock", 1, 2);
    }

    // ---- 11: addWalker

    @Sentence(promise = 11, says = "Adds a walker, who comes to a tile.")
    static void aNewWalkerStandsOnTheTile(Bench b) {
        b.does("addWalker", 0, 4);
        b.does("addWalker", 4, 0);
        b.due(0, "walkerRow", 0);
        b.due(4, "walkerColumn", 0);
        b.due(4, "walkerRow", 1);
        b.due(0, "walkerColumn", 1);
        // A tile without openings and with a pin is no hindrance.
        b.does("setTile", 2, 2, 0);
        b.does("pin", 2, 2);
        b.due(2, "addWalker", 2, 2);
    }

    @Sentence(promise = 11, says = PICKING_UP)
    static void aNewWalkerPicksUpAllKeys(Bench b) {
        for (char key = 'a'; key <= 'f'; key++) {
            b.does("placeKey", key, 4, 4);
        }
        b.does("addWalker", 4, 4);
        b.due(6, "keysOf", 0);
        b.due(0, "keysAt", 4, 4);
        b.due(0, "carrierOf", 'a');
        b.due(0, "carrierOf", 'f');
        // Nothing is left for the next one.
        b.does("addWalker", 4, 4);
        b.due(0, "keysOf", 1);
        b.due(6, "keysOf", 0);
    }

    @Sentence(promise = 11, says = PICKING_UP)
    static void aNewWalkerPicksUpNothingElsewhere(Bench b) {
        b.does("placeKey", 'a', 0, 0);
        b.does("placeKey", 'b', 0, 2);
        b.does("placeKey", 'c', 1, 1);
        b.does("addWalker", 0, 1);
        b.due(0, "keysOf", 0);
        b.due(1, "keysAt", 0, 0);
    }

    @Sentence(promise = 11, says = "Returns the index of the new walker.")
    static void addWalkerAnswers0To2(Bench b) {
        b.due(0, "addWalker", 3, 3);
        b.due(1, "addWalker", 0, 0);
        b.due(2, "addWalker", 3, 3);
        b.does("undo");
        b.due(2, "addWalker", 1, 1);
    }

    @Sentence(promise = 11, says = NO_CELL)
    static void addWalkerNeedsACell(Bench b) {
        b.refusedCells(0, "addWalker", 0, 0);
        b.due(0, "walkerCount");
    }

    @Sentence(promise = 11, says = "Throws `IllegalStateException` if there are 3 walkers")
    static void aFourthWalkerIsNotAdded(Bench b) {
        b.does("addWalker", 0, 0);
        b.does("addWalker", 4, 4);
        b.does("addWalker", 0, 0);
        b.does("placeKey", 'a', 2, 2);
        b.refused(Bench.STATE, "addWalker", 0, 0);
        b.refused(Bench.STATE, "addWalker", 2, 2);
        b.due(3, "walkerCount");
        // With one walker less there is room again.
        b.does("undo");
        b.does("undo");
        b.due(2, "addWalker", 2, 2);
    }

    @Sentence(promise = 11, says = "There are at most 3 walkers with the indices 0 to w - 1.")
    static void walkersHaveTheIndices0To2(Bench b) {
        for (int walkers = 0; walkers < 3; walkers++) {
            b.refusedWalkers(walkers, "walkerRow", 0);
            b.due(walkers, "addWalker", walkers, 4 - walkers);
            for (int walker = 0; walker <= walkers; walker++) {
                b.due(walker, "walkerRow", walker);
                b.due(4 - walker, "walkerColumn", walker);
            }
        }
        b.refusedWalkers(3, "walkerRow", 0);
    }

    @Sentence(promise = 11, says = "Several walkers can stand on the same tile.")
    static void allWalkersStandOnOneTile(Bench b) {
        for (int walker = 0; walker < 3; walker++) {
            b.due(walker, "addWalker", 4, 3);
        }
        for (int walker = 0; walker < 3; walker++) {
            b.due(4, "walkerRow", walker);
            b.due(3, "walkerColumn", walker);
        }
    }

    @Sentence(promise = 11, says = "Throws `UnsupportedOperationException` if the tile has a lock")
    static void noWalkerIsAddedOnALockedTile(Bench b) {
        b.does("addLock", 1, 1, 'a');
        b.does("addLock", 0, 0, 'f');
        b.refused(Bench.UNSUPPORTED, "addWalker", 1, 1);
        b.refused(Bench.UNSUPPORTED, "addWalker", 0, 0);
        // The key helps neither on the tile nor in the hands of another walker.
        b.does("placeKey", 'a', 1, 1);
        b.does("placeKey", 'f', 1, 2);
        b.refused(Bench.UNSUPPORTED, "addWalker", 1, 1);
        b.does("addWalker", 1, 2);
        b.refused(Bench.UNSUPPORTED, "addWalker", 0, 0);
        b.does("removeLock", 0, 0);
        b.due(1, "addWalker", 0, 0);
    }

    @Sentence(promise = 11, says = FIRST_LISTED)
    static void addWalkerLooksForCellThenNumberThenLock(Bench b) {
        b.does("addLock", 2, 2, 'a');
        for (int walker = 0; walker < 3; walker++) {
            b.does("addWalker", 1, 1);
        }
        b.refusedCells(0, "addWalker", 0, 0);
        b.refused(Bench.STATE, "addWalker", 2, 2);
    }

    // ---- 12: walk

    @Sentence(promise = 12, says = "Lets a walker walk to another cell.")
    static void onlyThisWalkerWalks(Bench b) {
        b.does("addWalker", 1, 1);
        b.does("addWalker", 1, 1);
        b.does("addWalker", 1, 1);
        b.does("walk", 1, 4, 0);
        b.due(4, "walkerRow", 1);
        b.due(0, "walkerColumn", 1);
        for (int walker = 0; walker < 3; walker += 2) {
            b.due(1, "walkerRow", walker);
            b.due(1, "walkerColumn", walker);
        }
    }

    @Sentence(promise = 12, says = "Returns the length of a shortest path.")
    static void walksAreFrom1To24Long(Bench b) {
        b.does("addWalker", 2, 2);
        b.due(1, "walk", 0, 1, 2);
        b.due(1, "walk", 0, 1, 3);
        b.due(1, "walk", 0, 2, 3);
        b.due(1, "walk", 0, 2, 2);
        b.due(4, "walk", 0, 0, 0);
        b.due(8, "walk", 0, 4, 4);
        b.due(4, "walk", 0, 4, 0);
        b.wayThroughAllCells();
        b.due(24, "walk", 0, 0, 4);
        b.due(24, "walk", 0, 4, 0);
    }

    @Sentence(promise = 12, says = "The length of a path is its number of cells minus 1.")
    static void aWalkToANeighbourIs1Long(Bench b) {
        b.wayInRow0();
        b.does("addWalker", 0, 0);
        b.due(1, "walk", 0, 0, 1);
        b.due(3, "walk", 0, 0, 4);
        b.due(4, "walk", 0, 0, 0);
    }

    @Sentence(promise = 12, says = NO_WALKER_OR_CELL)
    static void walkNeedsAWalker(Bench b) {
        b.refusedWalkers(0, "walk", 0, 1, 1);
        b.does("addWalker", 0, 0);
        b.refusedWalkers(1, "walk", 0, 1, 1);
        b.does("addWalker", 0, 0);
        b.does("addWalker", 0, 0);
        b.refusedWalkers(3, "walk", 0, 1, 1);
    }

    @Sentence(promise = 12, says = NO_WALKER_OR_CELL)
    static void walkNeedsACell(Bench b) {
        b.does("addWalker", 2, 2);
        b.refusedCells(1, "walk", 0, 0, 0);
    }

    @Sentence(promise = 12, says = "Throws `IllegalArgumentException` if the walker stands in this cell")
    static void aWalkerDoesNotWalkToTheOwnCell(Bench b) {
        b.does("addWalker", 0, 0);
        b.does("addWalker", 4, 4);
        b.does("placeKey", 'a', 4, 4);
        b.refused(Bench.ARGUMENT, "walk", 0, 0, 0);
        b.refused(Bench.ARGUMENT, "walk", 1, 4, 4);
        b.due(8, "walk", 0, 4, 4);
        b.refused(Bench.ARGUMENT, "walk", 0, 4, 4);
        // Neither a lock nor closed openings make another answer of it.
        b.does("addLock", 4, 4, 'c');
        b.does("setTile", 4, 4, 0);
        b.refused(Bench.ARGUMENT, "walk", 1, 4, 4);
    }

    @Sentence(promise = 12, says = NO_PATH)
    static void aWalkerDoesNotWalkWithoutPath(Bench b) {
        b.does("addWalker", 0, 0);
        b.does("setTile", 4, 4, 0);
        b.does("placeKey", 'a', 4, 4);
        b.refused(Bench.STATE, "walk", 0, 4, 4);
        b.does("setTile", 0, 0, 0);
        b.refused(Bench.STATE, "walk", 0, 0, 1);
    }

    @Sentence(promise = 12, says = NO_PATH)
    static void aWalkerDoesNotWalkThroughAOneSidedOpening(Bench b) {
        b.everyTile(0);
        b.does("setTile", 0, 0, 2);
        b.does("addWalker", 0, 0);
        b.refused(Bench.STATE, "walk", 0, 0, 1);
        b.does("setTile", 0, 0, 0);
        b.does("setTile", 0, 1, 8);
        b.refused(Bench.STATE, "walk", 0, 0, 1);
        b.does("setTile", 0, 0, 2);
        b.due(1, "walk", 0, 0, 1);
    }

    @Sentence(promise = 12, says = "Cells at opposite borders of the board are not neighbours.")
    static void aWalkerDoesNotWalkAcrossTheBorder(Bench b) {
        b.wayInRow0();
        b.does("addWalker", 0, 4);
        b.due(4, "walk", 0, 0, 0);
        b.does("setTile", 0, 2, 0);
        b.refused(Bench.STATE, "walk", 0, 0, 4);
        b.fresh();
        b.everyTile(5);
        b.does("addWalker", 4, 0);
        b.due(4, "walk", 0, 0, 0);
        b.does("setTile", 2, 0, 0);
        b.refused(Bench.STATE, "walk", 0, 4, 0);
    }

    @Sentence(promise = 12, says = ENTERING)
    static void onlyTheFittingKeyOpensALock(Bench b) {
        for (char key = 'a'; key <= 'f'; key++) {
            b.fresh();
            b.wayInRow0();
            b.does("addWalker", 0, 0);
            b.does("addLock", 0, 3, key);
            for (char other = 'a'; other <= 'f'; other++) {
                if (other != key) {
                    b.does("placeKey", other, 0, 1);
                }
            }
            b.does("walk", 0, 0, 1);
            b.refused(Bench.STATE, "walk", 0, 0, 3);
            b.refused(Bench.STATE, "walk", 0, 0, 4);
            b.does("placeKey", key, 0, 2);
            b.does("walk", 0, 0, 2);
            b.due(1, "walk", 0, 0, 3);
        }
    }

    @Sentence(promise = 12, says = ENTERING)
    static void theKeyOfAnotherWalkerDoesNotHelp(Bench b) {
        b.wayInRow0();
        b.does("placeKey", 'b', 0, 0);
        b.does("addWalker", 0, 0);
        b.does("addWalker", 0, 0);
        b.does("addLock", 0, 1, 'b');
        b.refused(Bench.STATE, "walk", 1, 0, 1);
        b.due(1, "walk", 0, 0, 1);
        // Nor does it help that the carrier stands on the locked tile.
        b.refused(Bench.STATE, "walk", 1, 0, 1);
    }

    @Sentence(promise = 12, says = ENTERING)
    static void eachWalkerOpensWithTheOwnKey(Bench b) {
        for (int carrier = 0; carrier < 3; carrier++) {
            b.fresh();
            b.wayInRow0();
            for (int walker = 0; walker < 3; walker++) {
                if (walker == carrier) {
                    b.does("placeKey", 'c', 0, 0);
                }
                b.does("addWalker", 0, 0);
            }
            b.does("addLock", 0, 1, 'c');
            for (int walker = 0; walker < 3; walker++) {
                b.due(walker == carrier ? (Object) 1 : Bench.STATE, "walk", walker, 0, 1);
            }
        }
    }

    @Sentence(promise = 12, says = ENTERING)
    static void aKeyThatLiesAnywhereOpensNothing(Bench b) {
        for (int cell = 0; cell < 25; cell++) {
            b.fresh();
            b.does("addLock", 2, 2, 'a');
            for (int walker = 0; walker < 3; walker++) {
                b.does("addWalker", 0, 0);
            }
            b.does("placeKey", 'a', cell / 5, cell % 5);
            for (int walker = 0; walker < 3; walker++) {
                b.due(Bench.STATE, "walk", walker, 2, 2);
            }
        }
    }

    @Sentence(promise = 12, says = ENTERING)
    static void aKeyOnTheLockedTileDoesNotHelp(Bench b) {
        b.does("addWalker", 0, 0);
        b.does("placeKey", 'a', 1, 0);
        b.does("addLock", 1, 0, 'a');
        b.refused(Bench.STATE, "walk", 0, 1, 0);
    }

    @Sentence(promise = 12, says = PATH)
    static void theFirstTileNeedNotBeEntered(Bench b) {
        b.wayInRow0();
        b.does("addWalker", 0, 2);
        b.does("addLock", 0, 2, 'a');
        b.due(2, "walk", 0, 0, 0);
        // Now the locked tile would be one on the way.
        b.refused(Bench.STATE, "walk", 0, 0, 4);
        b.refused(Bench.STATE, "walk", 0, 0, 2);
    }

    @Sentence(promise = 12, says = WALKING)
    static void aShortestPathGoesRoundLocks(Bench b) {
        b.does("addWalker", 0, 0);
        b.does("addLock", 0, 1, 'a');
        b.due(4, "walk", 0, 0, 2);
        b.does("removeLock", 0, 1);
        b.due(2, "walk", 0, 0, 0);
        b.due(6L, "walkedTotal");
    }

    @Sentence(promise = 12, says = WALKING)
    static void keysArePickedUpOnTheLastTileOnly(Bench b) {
        b.wayInRow0();
        b.does("addWalker", 0, 0);
        b.does("placeKey", 'f', 0, 0);
        b.does("placeKey", 'a', 0, 1);
        b.does("placeKey", 'b', 0, 2);
        b.does("placeKey", 'c', 0, 3);
        b.does("placeKey", 'd', 0, 3);
        b.does("placeKey", 'e', 0, 4);
        b.due(3, "walk", 0, 0, 3);
        b.due(2, "keysOf", 0);
        b.due(0, "carrierOf", 'c');
        b.due(0, "carrierOf", 'd');
        b.due(0, "keysAt", 0, 3);
        b.due(1, "keysAt", 0, 0);
        b.due(1, "keysAt", 0, 1);
        b.due(1, "keysAt", 0, 2);
        b.due(1, "keysAt", 0, 4);
    }

    @Sentence(promise = 12, says = WALKING)
    static void keysOnTheWayDoNotHelp(Bench b) {
        b.wayInRow0();
        b.does("addWalker", 0, 0);
        b.does("placeKey", 'a', 0, 1);
        b.does("addLock", 0, 2, 'a');
        b.refused(Bench.STATE, "walk", 0, 0, 2);
        b.refused(Bench.STATE, "walk", 0, 0, 4);
        b.due(1, "walk", 0, 0, 1);
        b.due(3, "walk", 0, 0, 4);
    }

    @Sentence(promise = 12, says = PICKING_UP)
    static void aWalkerWhoWalksPicksUpAllKeys(Bench b) {
        b.does("addWalker", 0, 0);
        b.does("addWalker", 4, 4);
        for (char key = 'a'; key <= 'f'; key++) {
            b.does("placeKey", key, 4, 4);
        }
        b.does("walk", 0, 4, 4);
        b.due(6, "keysOf", 0);
        b.due(0, "keysOf", 1);
        b.due(0, "keysAt", 4, 4);
    }

    @Sentence(promise = 12, says = FIRST_LISTED)
    static void walkLooksForWalkerAndCellFirst(Bench b) {
        b.does("addWalker", 0, 0);
        b.does("setTile", 0, 0, 0);
        // To the own cell, and to one without a path.
        b.refusedWalkers(1, "walk", 0, 0, 0);
        b.refusedWalkers(1, "walk", 0, 3, 3);
        b.refusedCells(1, "walk", 0, 0, 0);
        b.refused(Bench.ARGUMENT, "walk", 0, 0, 0);
    }

    @Sentence(promise = 12, says = NOTHING_CHANGES)
    static void refusedChangesOfKeysLocksAndWalkersCannotBeUndone(Bench b) {
        b.does("addLock", 0, 0, 'a');
        b.due(Bench.ARGUMENT, "placeKey", 'g', 0, 0);
        b.due(Bench.STATE, "addLock", 0, 0, 'b');
        b.due(Bench.ELEMENT, "removeLock", 0, 1);
        b.due(Bench.UNSUPPORTED, "addWalker", 0, 0);
        b.due(Bench.INDEX, "walk", 0, 0, 1);
        b.due(0, "undo");
        b.due(false, "hasLock", 0, 0);
    }
}
