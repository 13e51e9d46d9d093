/** Tests of the sentences of promises 1 to 7: a new object, and the changes of tiles. */
public final class TileBoundaryTest {
    private static final String FIRST_LISTED =
            "If several conditions of a method apply, the exception that is listed first is thrown.";
    private static final String NOTHING_CHANGES = "If a call throws an exception, nothing changes, except that run"
            + " empties the text buffer and stores the error position or the failed command.";
    private static final String PINNED_TILES = "A row or column in which a tile is pinned cannot be shifted, and a"
            + " pinned tile cannot be turned; its openings can be set.";
    private static final String ALL_MOVES =
            "Everything that lies or stands on a tile, its openings, its lock and its keys move with the tile.";
    private static final String NOT_COMING = "A walker who is moved by a shift does not come to a tile by that.";
    private static final String STEPS = "`steps`: the number of steps, -4 to 4, but not 0";
    private static final String NO_CELL = "Throws `IndexOutOfBoundsException` if there is no such cell";

    private TileBoundaryTest() {
    }

    public static void main(String[] args) {
        Sentences.run(TileBoundaryTest.class);
    }

    // ---- 1: a new object

    @Sentence(promise = 1, says = "Creates a board whose tiles have all openings, without pinned tiles, locks, keys"
            + " and walkers.")
    static void aNewObjectIsEmpty(Bench b) {
        for (int row = 0; row < Bench.SIDE; row++) {
            for (int column = 0; column < Bench.SIDE; column++) {
                b.due(15, "openings", row, column);
                b.due(false, "isPinned", row, column);
                b.due(false, "hasLock", row, column);
                b.due(0, "keysAt", row, column);
            }
        }
        for (char key = 'a'; key <= 'f'; key++) {
            b.due(Bench.ELEMENT, "keyRow", key);
            b.due(Bench.ELEMENT, "carrierOf", key);
        }
        b.due(0, "walkerCount");
    }

    @Sentence(promise = 1, says = "Creates a board whose tiles have all openings, without pinned tiles, locks, keys"
            + " and walkers.")
    static void aNewObjectTakesNothingFromAnEarlierOne(Bench b) {
        String state = b.wholeState();
        b.does("setTile", 2, 2, 1);
        b.does("pin", 2, 2);
        b.does("placeKey", 'c', 1, 1);
        b.does("addLock", 3, 3, 'd');
        b.does("addWalker", 0, 0);
        b.does("walk", 0, 0, 4);
        b.does("shiftRow", 4, 1);
        b.does("save");
        b.does("writeRow", 2);
        b.dueError(1, "px");
        b.dueFailure(0, "pin 22");
        b.type("pin");
        b.fresh();
        b.same(state, b.wholeState(), "a new object");
    }

    @Sentence(promise = 1, says = "Initially each tile has all openings, 15.")
    static void aNewTileHasAllOpenings(Bench b) {
        for (int row = 0; row < Bench.SIDE; row++) {
            for (int column = 0; column < Bench.SIDE; column++) {
                b.due(15, "openings", row, column);
            }
        }
    }

    @Sentence(promise = 1, says = "A tile is pinned or not, and initially not.")
    static void aNewTileIsNotPinned(Bench b) {
        for (int row = 0; row < Bench.SIDE; row++) {
            for (int column = 0; column < Bench.SIDE; column++) {
                b.due(false, "isPinned", row, column);
            }
        }
    }

    @Sentence(promise = 1, says = "A key is nowhere, as initially, or it lies on a tile, or a walker carries it.")
    static void aNewKeyIsNowhere(Bench b) {
        for (char key = 'a'; key <= 'f'; key++) {
            b.due(Bench.ELEMENT, "keyRow", key);
            b.due(Bench.ELEMENT, "keyColumn", key);
            b.due(Bench.ELEMENT, "carrierOf", key);
        }
        for (int row = 0; row < Bench.SIDE; row++) {
            for (int column = 0; column < Bench.SIDE; column++) {
                b.due(0, "keysAt", row, column);
            }
        }
    }

    @Sentence(promise = 1, says = "The board has 5 rows and 5 columns, each with the indices 0 to 4.")
    static void theBoardHas25Cells(Bench b) {
        for (int row = 0; row < Bench.SIDE; row++) {
            b.due(true, "canShiftRow", row);
            b.due(true, "canShiftColumn", row);
            for (int column = 0; column < Bench.SIDE; column++) {
                // Each cell has a tile of its own.
                b.due(15, "setTile", row, column, (row * Bench.SIDE + column) % 15);
            }
        }
        b.refusedLines(0, "canShiftRow", 0);
        b.refusedLines(0, "canShiftColumn", 0);
        b.refusedCells(0, "openings", 0, 0);
    }

    @Sentence(promise = 1, says = "An object is used for at most 512 calls after it has been made; what later calls"
            + " answer is free.")
    static void the512thCallIsAnswered(Bench b) {
        for (int count = 1; count <= 511; count++) {
            b.does("shiftRow", 0, count % 2 == 0 ? 4 : -4);
        }
        b.due(511, "shiftCount");
        b.fresh();
        b.does("addWalker", 0, 0);
        for (int count = 0; count < 510; count++) {
            b.does("walk", 0, count % 2 == 0 ? 4 : 0, count % 2 == 0 ? 4 : 0);
        }
        b.due(4080L, "walkedTotal");
        b.fresh();
        for (int count = 0; count < 511; count++) {
            b.does("setTile", 1, 1, count % 16);
        }
        b.due(7, "undo");
    }

    // ---- 2: setTile

    @Sentence(promise = 2, says = "Sets the openings of a tile.")
    static void onlyTheOpeningsOfThisTileAreSet(Bench b) {
        int[][] cells = {{0, 0}, {0, 4}, {4, 0}, {4, 4}, {2, 3}};
        for (int index = 0; index < cells.length; index++) {
            b.does("setTile", cells[index][0], cells[index][1], index);
        }
        for (int row = 0; row < Bench.SIDE; row++) {
            for (int column = 0; column < Bench.SIDE; column++) {
                int want = 15;
                for (int index = 0; index < cells.length; index++) {
                    if (cells[index][0] == row && cells[index][1] == column) {
                        want = index;
                    }
                }
                b.due(want, "openings", row, column);
            }
        }
    }

    @Sentence(promise = 2, says = "`openings`: the new openings, 0 to 15")
    static void openingsFrom0To15AreSet(Bench b) {
        for (int openings = 0; openings <= 15; openings++) {
            b.does("setTile", 1, 3, openings);
            b.due(openings, "openings", 1, 3);
        }
    }

    @Sentence(promise = 2, says = "Returns the previous openings.")
    static void setTileAnswersThePreviousOpenings(Bench b) {
        b.due(15, "setTile", 4, 4, 0);
        b.due(0, "setTile", 4, 4, 0);
        b.due(0, "setTile", 4, 4, 15);
        b.due(15, "setTile", 4, 4, 15);
        b.due(15, "setTile", 4, 4, 1);
        b.due(1, "setTile", 4, 4, 2);
    }

    @Sentence(promise = 2, says = NO_CELL)
    static void setTileNeedsACell(Bench b) {
        b.refusedCells(0, "setTile", 0, 0, 7);
    }

    @Sentence(promise = 2, says = "Throws `IllegalArgumentException` if the openings are out of range")
    static void setTileNeedsOpeningsInRange(Bench b) {
        b.does("setTile", 2, 2, 6);
        b.refusedNumbers(Bench.ARGUMENT, new int[] {-1, 16, -16, 17, 31, 256, Bench.MIN, Bench.MAX}, 2,
                "setTile", 2, 2, 6);
    }

    @Sentence(promise = 2, says = FIRST_LISTED)
    static void setTileLooksForTheCellFirst(Bench b) {
        b.refusedCells(0, "setTile", 0, 0, 16);
        b.refusedCells(0, "setTile", 0, 0, -1);
    }

    @Sentence(promise = 2, says = PINNED_TILES)
    static void theOpeningsOfAPinnedTileCanBeSet(Bench b) {
        b.does("pin", 3, 3);
        b.due(15, "setTile", 3, 3, 0);
        b.due(0, "openings", 3, 3);
        b.due(true, "isPinned", 3, 3);
    }

    @Sentence(promise = 2, says = "The openings are told by a number from 0 to 15, which is the sum of 1 for north, 2"
            + " for east, 4 for south and 8 for west.")
    static void openingsAreASumOfDirections(Bench b) {
        int[] numbers = {1, 2, 4, 8};
        for (int openings = 0; openings <= 15; openings++) {
            b.does("setTile", 2, 2, openings);
            for (int direction = 0; direction < 4; direction++) {
                b.due((openings & numbers[direction]) != 0, "isConnected", 2, 2, direction);
            }
        }
    }

    // ---- 3: turnTile

    @Sentence(promise = 3, says = "Turns a tile clockwise: with each quarter turn, an opening to the north becomes one"
            + " to the east, one to the east becomes one to the south, and so on.")
    static void turningGoesFromWestToNorthAgain(Bench b) {
        int[] before = {1, 2, 4, 8, 0, 15, 9, 12, 5, 10, 14, 7};
        int[] after = {2, 4, 8, 1, 0, 15, 3, 9, 10, 5, 13, 14};
        for (int index = 0; index < before.length; index++) {
            b.does("setTile", 4, 0, before[index]);
            b.does("turnTile", 4, 0, 1);
            b.due(after[index], "openings", 4, 0);
            b.due(15, "openings", 0, 4);
        }
    }

    @Sentence(promise = 3, says = "`quarterTurns`: the number of quarter turns, 1 to 3")
    static void oneToThreeQuarterTurns(Bench b) {
        int[] north = {1, 2, 4, 8, 1, 2, 4};
        for (int turns = 1; turns <= 3; turns++) {
            for (int start = 0; start < 4; start++) {
                b.does("setTile", 0, 0, north[start]);
                b.does("turnTile", 0, 0, turns);
                b.due(north[start + turns], "openings", 0, 0);
            }
        }
    }

    @Sentence(promise = 3, says = "Returns the openings after the call.")
    static void turnTileAnswersTheNewOpenings(Bench b) {
        b.does("setTile", 4, 4, 8);
        b.due(1, "turnTile", 4, 4, 1);
        b.due(8, "turnTile", 4, 4, 3);
        b.due(2, "turnTile", 4, 4, 2);
        b.does("setTile", 4, 4, 0);
        b.due(0, "turnTile", 4, 4, 3);
        b.does("setTile", 4, 4, 15);
        b.due(15, "turnTile", 4, 4, 2);
    }

    @Sentence(promise = 3, says = NO_CELL)
    static void turnTileNeedsACell(Bench b) {
        b.refusedCells(0, "turnTile", 0, 0, 1);
    }

    @Sentence(promise = 3, says = "Throws `IllegalArgumentException` if the number of quarter turns is out of range")
    static void turnTileNeedsTurnsInRange(Bench b) {
        b.does("setTile", 1, 2, 1);
        b.refusedNumbers(Bench.ARGUMENT, new int[] {0, 4, -1, -3, 5, 7, 33, Bench.MIN, Bench.MAX}, 2,
                "turnTile", 1, 2, 1);
    }

    @Sentence(promise = 3, says = "Throws `IllegalStateException` if the tile is pinned")
    static void aPinnedTileIsNotTurned(Bench b) {
        b.does("setTile", 4, 4, 1);
        b.does("pin", 4, 4);
        for (int turns = 1; turns <= 3; turns++) {
            b.refused(Bench.STATE, "turnTile", 4, 4, turns);
        }
        // Its neighbours are turned, and so is the tile when the pin is gone.
        b.due(15, "turnTile", 4, 3, 1);
        b.does("unpin", 4, 4);
        b.due(2, "turnTile", 4, 4, 1);
    }

    @Sentence(promise = 3, says = PINNED_TILES)
    static void aPinnedTileWithAllOpeningsIsNotTurned(Bench b) {
        b.does("pin", 0, 0);
        b.refused(Bench.STATE, "turnTile", 0, 0, 1);
        b.does("setTile", 0, 0, 0);
        b.refused(Bench.STATE, "turnTile", 0, 0, 2);
    }

    @Sentence(promise = 3, says = FIRST_LISTED)
    static void turnTileLooksForCellThenTurnsThenPin(Bench b) {
        b.does("pin", 2, 2);
        b.refusedCells(0, "turnTile", 0, 0, 0);
        b.refused(Bench.ARGUMENT, "turnTile", 2, 2, 0);
        b.refused(Bench.ARGUMENT, "turnTile", 2, 2, 4);
    }

    // ---- 4: pin

    @Sentence(promise = 4, says = "Pins a tile.")
    static void onlyThisTileIsPinned(Bench b) {
        b.does("pin", 0, 4);
        b.does("pin", 4, 0);
        for (int row = 0; row < Bench.SIDE; row++) {
            for (int column = 0; column < Bench.SIDE; column++) {
                b.due(row + column == 4 && row != column && (row == 0 || row == 4), "isPinned", row, column);
            }
        }
    }

    @Sentence(promise = 4, says = "Returns the number of pinned tiles after the call.")
    static void pinCountsFrom1To25(Bench b) {
        for (int count = 1; count <= 25; count++) {
            b.due(count, "pin", (count - 1) % 5, (count - 1) / 5);
        }
        b.does("unpin", 0, 0);
        b.does("unpin", 4, 4);
        b.due(24, "pin", 4, 4);
    }

    @Sentence(promise = 4, says = NO_CELL)
    static void pinNeedsACell(Bench b) {
        b.refusedCells(0, "pin", 0, 0);
    }

    @Sentence(promise = 4, says = "Throws `IllegalStateException` if the tile is pinned")
    static void aPinnedTileIsNotPinnedAgain(Bench b) {
        b.does("pin", 4, 4);
        b.refused(Bench.STATE, "pin", 4, 4);
        b.due(2, "pin", 0, 0);
        b.refused(Bench.STATE, "pin", 0, 0);
        b.does("unpin", 0, 0);
        b.due(2, "pin", 0, 0);
    }

    @Sentence(promise = 4, says = "Throws `IllegalStateException` if the tile is pinned")
    static void onAFullBoardNoTileIsPinned(Bench b) {
        for (int cell = 0; cell < 25; cell++) {
            b.does("pin", cell / 5, cell % 5);
        }
        for (int cell = 0; cell < 25; cell++) {
            b.due(Bench.STATE, "pin", cell / 5, cell % 5);
        }
    }

    // ---- 5: unpin

    @Sentence(promise = 5, says = "Removes the pin of a tile.")
    static void onlyThisPinIsRemoved(Bench b) {
        b.does("pin", 1, 1);
        b.does("pin", 1, 2);
        b.does("pin", 2, 1);
        b.does("unpin", 1, 1);
        b.due(false, "isPinned", 1, 1);
        b.due(true, "isPinned", 1, 2);
        b.due(true, "isPinned", 2, 1);
    }

    @Sentence(promise = 5, says = "Returns the number of pinned tiles after the call.")
    static void unpinCountsFrom24To0(Bench b) {
        for (int cell = 0; cell < 25; cell++) {
            b.does("pin", cell / 5, cell % 5);
        }
        for (int cell = 0; cell < 25; cell++) {
            b.due(24 - cell, "unpin", cell % 5, cell / 5);
        }
    }

    @Sentence(promise = 5, says = NO_CELL)
    static void unpinNeedsACell(Bench b) {
        b.does("pin", 0, 0);
        b.does("pin", 0, 4);
        b.does("pin", 4, 4);
        b.refusedCells(0, "unpin", 0, 0);
    }

    @Sentence(promise = 5, says = "Throws `IllegalStateException` if the tile is not pinned")
    static void aTileWithoutPinIsNotUnpinned(Bench b) {
        b.refused(Bench.STATE, "unpin", 0, 0);
        b.refused(Bench.STATE, "unpin", 4, 4);
        b.does("pin", 0, 1);
        b.refused(Bench.STATE, "unpin", 1, 0);
        b.does("unpin", 0, 1);
        b.refused(Bench.STATE, "unpin", 0, 1);
    }

    // ---- 6: shiftRow

    @Sentence(promise = 6, says = "Shifts a row.")
    static void onlyThisRowIsShifted(Bench b) {
        for (int row = 0; row < Bench.SIDE; row++) {
            b.fresh();
            numberTiles(b);
            b.does("shiftRow", row, 1);
            for (int other = 0; other < Bench.SIDE; other++) {
                for (int column = 0; column < Bench.SIDE; column++) {
                    int from = other == row ? (column + 4) % 5 : column;
                    b.due((other * Bench.SIDE + from) % 16, "openings", other, column);
                }
            }
        }
    }

    @Sentence(promise = 6, says = STEPS)
    static void aRowIsShiftedByUpTo4Steps(Bench b) {
        for (int steps : new int[] {-4, -3, -2, -1, 1, 2, 3, 4}) {
            b.does("shiftRow", 4, steps);
        }
        b.due(8, "shiftCount");
    }

    @Sentence(promise = 6, says = "When a row is shifted by a number of steps, each tile of the row moves to the east"
            + " by this number of columns, where column 0 comes after column 4 again.")
    static void column0ComesAfterColumn4(Bench b) {
        for (int steps = 1; steps <= 4; steps++) {
            b.fresh();
            numberTiles(b);
            b.does("shiftRow", 2, steps);
            for (int column = 0; column < Bench.SIDE; column++) {
                b.due(10 + column, "openings", 2, (column + steps) % 5);
            }
        }
    }

    @Sentence(promise = 6, says = "With a negative number of steps the tiles move to the west.")
    static void column4ComesAfterColumn0ToTheWest(Bench b) {
        for (int steps = 1; steps <= 4; steps++) {
            b.fresh();
            numberTiles(b);
            b.does("shiftRow", 2, -steps);
            for (int column = 0; column < Bench.SIDE; column++) {
                b.due(10 + column, "openings", 2, (column + 5 - steps) % 5);
            }
        }
    }

    @Sentence(promise = 6, says = "Returns the number of walkers who stand on tiles of the row.")
    static void shiftRowCountsItsWalkers(Bench b) {
        b.due(0, "shiftRow", 0, 1);
        b.does("addWalker", 0, 4);
        b.due(1, "shiftRow", 0, 1);
        b.due(0, "shiftRow", 1, 1);
        b.due(0, "shiftRow", 4, 1);
        b.does("addWalker", 1, 0);
        b.due(1, "shiftRow", 0, -1);
        b.due(1, "shiftRow", 1, -1);
        b.does("walk", 1, 0, 4);
        b.due(2, "shiftRow", 0, 1);
        b.due(0, "shiftRow", 1, 1);
        b.does("addWalker", 0, 2);
        b.due(3, "shiftRow", 0, 4);
    }

    @Sentence(promise = 6, says = "Throws `IndexOutOfBoundsException` if there is no such row")
    static void shiftRowNeedsARow(Bench b) {
        b.refusedLines(0, "shiftRow", 0, 1);
    }

    @Sentence(promise = 6, says = "Throws `IllegalArgumentException` if the number of steps is out of range")
    static void shiftRowNeedsStepsInRange(Bench b) {
        numberTiles(b);
        b.refusedNumbers(Bench.ARGUMENT, new int[] {0, -5, 5, -6, 6, 10, Bench.MIN, Bench.MAX}, 1, "shiftRow", 1, 1);
    }

    @Sentence(promise = 6, says = "Throws `IllegalStateException` if a tile of the row is pinned")
    static void aRowWithAPinIsNotShifted(Bench b) {
        for (int column = 0; column < Bench.SIDE; column++) {
            b.fresh();
            b.does("setTile", 3, 2, 1);
            b.does("pin", 3, column);
            b.refused(Bench.STATE, "shiftRow", 3, 1);
            b.refused(Bench.STATE, "shiftRow", 3, -4);
            b.due(0, "shiftRow", 2, 1);
            b.due(0, "shiftRow", 4, 1);
            b.does("unpin", 3, column);
            b.due(0, "shiftRow", 3, 1);
        }
    }

    @Sentence(promise = 6, says = FIRST_LISTED)
    static void shiftRowLooksForRowThenStepsThenPin(Bench b) {
        b.does("pin", 1, 4);
        b.refusedLines(0, "shiftRow", 0, 0);
        b.refusedLines(0, "shiftRow", 0, 5);
        b.refused(Bench.ARGUMENT, "shiftRow", 1, 0);
        b.refused(Bench.ARGUMENT, "shiftRow", 1, -5);
    }

    @Sentence(promise = 6, says = ALL_MOVES)
    static void allOnATileMovesWithItsRow(Bench b) {
        b.does("addWalker", 1, 4);
        b.does("addWalker", 1, 4);
        fillTile(b, 1, 4);
        b.due(2, "shiftRow", 1, 1);
        dueFullTile(b, 1, 0);
        b.due(2, "shiftRow", 1, -2);
        dueFullTile(b, 1, 3);
        for (int walker = 0; walker < 2; walker++) {
            b.due(1, "walkerRow", walker);
            b.due(3, "walkerColumn", walker);
        }
    }

    @Sentence(promise = 6, says = ALL_MOVES)
    static void whatACarrierHasStaysCarriedInARow(Bench b) {
        b.does("placeKey", 'd', 0, 0);
        b.does("addWalker", 0, 0);
        b.does("shiftRow", 0, 1);
        b.due(0, "carrierOf", 'd');
        b.due(Bench.ELEMENT, "keyRow", 'd');
    }

    @Sentence(promise = 6, says = NOT_COMING)
    static void aWalkerInAShiftedRowPicksNothingUp(Bench b) {
        b.does("addWalker", 2, 4);
        b.does("placeKey", 'a', 2, 4);
        b.does("placeKey", 'b', 2, 0);
        b.does("placeKey", 'c', 3, 0);
        b.does("shiftRow", 2, 1);
        b.due(0, "keysOf", 0);
        b.due(1, "keysAt", 2, 0);
        b.due(1, "keysAt", 2, 1);
    }

    // ---- 7: shiftColumn

    @Sentence(promise = 7, says = "Shifts a column.")
    static void onlyThisColumnIsShifted(Bench b) {
        for (int column = 0; column < Bench.SIDE; column++) {
            b.fresh();
            numberTiles(b);
            b.does("shiftColumn", column, 1);
            for (int other = 0; other < Bench.SIDE; other++) {
                for (int row = 0; row < Bench.SIDE; row++) {
                    int from = other == column ? (row + 4) % 5 : row;
                    b.due((from * Bench.SIDE + other) % 16, "openings", row, other);
                }
            }
        }
    }

    @Sentence(promise = 7, says = STEPS)
    static void aColumnIsShiftedByUpTo4Steps(Bench b) {
        for (int steps : new int[] {-4, -3, -2, -1, 1, 2, 3, 4}) {
            b.does("shiftColumn", 4, steps);
        }
        b.due(8, "shiftCount");
    }

    @Sentence(promise = 7, says = "When a column is shifted, its tiles move to the south in the same way, or to the"
            + " north with a negative number.")
    static void row0ComesAfterRow4(Bench b) {
        for (int steps = 1; steps <= 4; steps++) {
            b.fresh();
            numberTiles(b);
            b.does("shiftColumn", 2, steps);
            for (int row = 0; row < Bench.SIDE; row++) {
                b.due((row * Bench.SIDE + 2) % 16, "openings", (row + steps) % 5, 2);
            }
        }
    }

    @Sentence(promise = 7, says = "When a column is shifted, its tiles move to the south in the same way, or to the"
            + " north with a negative number.")
    static void row4ComesAfterRow0ToTheNorth(Bench b) {
        for (int steps = 1; steps <= 4; steps++) {
            b.fresh();
            numberTiles(b);
            b.does("shiftColumn", 2, -steps);
            for (int row = 0; row < Bench.SIDE; row++) {
                b.due((row * Bench.SIDE + 2) % 16, "openings", (row + 5 - steps) % 5, 2);
            }
        }
    }

    @Sentence(promise = 7, says = "Returns the number of walkers who stand on tiles of the column.")
    static void shiftColumnCountsItsWalkers(Bench b) {
        b.due(0, "shiftColumn", 0, 1);
        b.does("addWalker", 4, 0);
        b.due(1, "shiftColumn", 0, 1);
        b.due(0, "shiftColumn", 1, 1);
        b.due(0, "shiftColumn", 4, 1);
        b.does("addWalker", 0, 1);
        b.due(1, "shiftColumn", 0, -1);
        b.due(1, "shiftColumn", 1, -1);
        b.does("walk", 1, 4, 0);
        b.due(2, "shiftColumn", 0, 1);
        b.due(0, "shiftColumn", 1, 1);
        b.does("addWalker", 2, 0);
        b.due(3, "shiftColumn", 0, 4);
    }

    @Sentence(promise = 7, says = "Throws `IndexOutOfBoundsException` if there is no such column")
    static void shiftColumnNeedsAColumn(Bench b) {
        b.refusedLines(0, "shiftColumn", 0, 1);
    }

    @Sentence(promise = 7, says = "Throws `IllegalArgumentException` if the number of steps is out of range")
    static void shiftColumnNeedsStepsInRange(Bench b) {
        numberTiles(b);
        b.refusedNumbers(Bench.ARGUMENT, new int[] {0, -5, 5, -6, 6, 10, Bench.MIN, Bench.MAX}, 1,
                "shiftColumn", 1, 1);
    }

    @Sentence(promise = 7, says = "Throws `IllegalStateException` if a tile of the column is pinned")
    static void aColumnWithAPinIsNotShifted(Bench b) {
        for (int row = 0; row < Bench.SIDE; row++) {
            b.fresh();
            b.does("setTile", 2, 3, 1);
            b.does("pin", row, 3);
            b.refused(Bench.STATE, "shiftColumn", 3, 1);
            b.refused(Bench.STATE, "shiftColumn", 3, -4);
            b.due(0, "shiftColumn", 2, 1);
            b.due(0, "shiftColumn", 4, 1);
            b.does("unpin", row, 3);
            b.due(0, "shiftColumn", 3, 1);
        }
    }

    @Sentence(promise = 7, says = FIRST_LISTED)
    static void shiftColumnLooksForColumnThenStepsThenPin(Bench b) {
        b.does("pin", 4, 1);
        b.refusedLines(0, "shiftColumn", 0, 0);
        b.refusedLines(0, "shiftColumn", 0, 5);
        b.refused(Bench.ARGUMENT, "shiftColumn", 1, 0);
        b.refused(Bench.ARGUMENT, "shiftColumn", 1, -5);
    }

    @Sentence(promise = 7, says = PINNED_TILES)
    static void onePinHoldsItsRowAndItsColumn(Bench b) {
        b.does("pin", 0, 4);
        b.refused(Bench.STATE, "shiftRow", 0, 1);
        b.refused(Bench.STATE, "shiftColumn", 4, 1);
        b.due(0, "shiftRow", 4, 1);
        b.due(0, "shiftColumn", 0, 1);
    }

    @Sentence(promise = 7, says = ALL_MOVES)
    static void allOnATileMovesWithItsColumn(Bench b) {
        b.does("addWalker", 4, 1);
        b.does("addWalker", 4, 1);
        fillTile(b, 4, 1);
        b.due(2, "shiftColumn", 1, 1);
        dueFullTile(b, 0, 1);
        b.due(2, "shiftColumn", 1, -2);
        dueFullTile(b, 3, 1);
        for (int walker = 0; walker < 2; walker++) {
            b.due(3, "walkerRow", walker);
            b.due(1, "walkerColumn", walker);
        }
    }

    @Sentence(promise = 7, says = ALL_MOVES)
    static void whatACarrierHasStaysCarriedInAColumn(Bench b) {
        b.does("placeKey", 'd', 0, 0);
        b.does("addWalker", 0, 0);
        b.does("shiftColumn", 0, 1);
        b.due(0, "carrierOf", 'd');
        b.due(Bench.ELEMENT, "keyRow", 'd');
    }

    @Sentence(promise = 7, says = NOT_COMING)
    static void aWalkerInAShiftedColumnPicksNothingUp(Bench b) {
        b.does("addWalker", 4, 2);
        b.does("placeKey", 'a', 4, 2);
        b.does("placeKey", 'b', 0, 2);
        b.does("placeKey", 'c', 0, 3);
        b.does("shiftColumn", 2, 1);
        b.due(0, "keysOf", 0);
        b.due(1, "keysAt", 0, 2);
        b.due(1, "keysAt", 1, 2);
    }

    @Sentence(promise = 7, says = NOTHING_CHANGES)
    static void refusedChangesOfTilesCannotBeUndone(Bench b) {
        b.does("pin", 0, 0);
        b.due(Bench.ARGUMENT, "setTile", 0, 0, 16);
        b.due(Bench.STATE, "turnTile", 0, 0, 1);
        b.due(Bench.STATE, "pin", 0, 0);
        b.due(Bench.STATE, "unpin", 0, 1);
        b.due(Bench.STATE, "shiftRow", 0, 1);
        b.due(Bench.ARGUMENT, "shiftColumn", 0, 0);
        b.due(0, "undo");
        b.due(false, "isPinned", 0, 0);
    }

    // ---- what the tests share

    /** Gives the tiles different openings, row by row. */
    private static void numberTiles(Bench b) {
        for (int cell = 0; cell < 25; cell++) {
            b.does("setTile", cell / 5, cell % 5, cell % 16);
        }
    }

    private static void fillTile(Bench b, int row, int column) {
        b.does("setTile", row, column, 6);
        b.does("addLock", row, column, 'c');
        b.does("placeKey", 'e', row, column);
        b.does("placeKey", 'b', row, column);
    }

    private static void dueFullTile(Bench b, int row, int column) {
        b.due(6, "openings", row, column);
        b.due('c', "lockAt", row, column);
        b.due(2, "keysAt", row, column);
        b.due(row, "keyRow", 'e');
        b.due(column, "keyColumn", 'b');
    }
}
