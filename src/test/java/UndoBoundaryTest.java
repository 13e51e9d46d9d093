/** Tests of the sentences of promises 47 to 49: undo and snapshot. */
public final class UndoBoundaryTest {
    private static final String UNDOES = "Undoes the most recent changing call that has not been undone.";
    private static final String CAN_BE_UNDONE = "Returns the number of calls that can still be undone.";
    private static final String NO_CALL = "Throws `IllegalStateException` if no call can be undone";
    private static final String CHANGING = "The changing methods are setTile, turnTile, pin, unpin, shiftRow,"
            + " shiftColumn, placeKey, addLock, removeLock, addWalker, walk and run.";
    private static final String EIGHT = "Each successful call of them can be undone, also if nothing is different after"
            + " it; at most the 8 most recent ones, the most recent one first.";
    private static final String WHOLE_STATE = "Undo, save and restore concern the whole state except the text buffer,"
            + " the error position, the failed command and the output line.";
    private static final String NOTHING_CHANGES = "If a call throws an exception, nothing changes, except that run"
            + " empties the text buffer and stores the error position or the failed command.";
    private static final String SAVES = "Saves the state, replacing a previously saved state.";
    private static final String RESTORES = "Restores the saved state, which stays saved.";
    private static final Object[][] CHANGES = {
        {"setTile", 0, 0, 3}, {"turnTile", 0, 1, 1}, {"pin", 0, 0}, {"unpin", 4, 4}, {"shiftRow", 0, 2},
        {"shiftColumn", 2, -1}, {"placeKey", 'c', 0, 0}, {"addLock", 0, 0, 'e'}, {"removeLock", 3, 3},
        {"addWalker", 2, 2}, {"walk", 0, 2, 2}, {"run"},
    };

    private UndoBoundaryTest() {
    }

    public static void main(String[] args) {
        Sentences.run(UndoBoundaryTest.class);
    }

    // ---- 47: undo

    @Sentence(promise = 47, says = UNDOES)
    static void theMostRecentCallIsUndoneFirst(Bench b) {
        b.does("setTile", 0, 0, 1);
        b.does("setTile", 0, 0, 2);
        b.does("setTile", 0, 0, 3);
        b.does("undo");
        b.due(2, "openings", 0, 0);
        b.does("undo");
        b.due(1, "openings", 0, 0);
        b.does("undo");
        b.due(15, "openings", 0, 0);
    }

    @Sentence(promise = 47, says = UNDOES)
    static void aCallThatWasUndoneIsNotUndoneAgain(Bench b) {
        b.does("pin", 0, 0);
        b.does("pin", 1, 1);
        b.does("undo");
        b.does("pin", 2, 2);
        b.due(1, "undo");
        b.due(false, "isPinned", 2, 2);
        b.due(false, "isPinned", 1, 1);
        b.due(true, "isPinned", 0, 0);
        b.due(0, "undo");
        b.due(false, "isPinned", 0, 0);
        b.due(Bench.STATE, "undo");
    }

    @Sentence(promise = 47, says = CAN_BE_UNDONE)
    static void from0To7CallsCanStillBeUndone(Bench b) {
        for (int calls = 1; calls <= 12; calls++) {
            b.fresh();
            for (int call = 0; call < calls; call++) {
                b.does("setTile", 0, 0, call);
            }
            for (int left = Math.min(calls, 8) - 1; left >= 0; left--) {
                b.due(left, "undo");
            }
            b.due(Bench.STATE, "undo");
        }
    }

    @Sentence(promise = 47, says = CAN_BE_UNDONE)
    static void afterAnUndoThereIsRoomForOneCallOnly(Bench b) {
        for (int call = 0; call < 10; call++) {
            b.does("setTile", 0, 0, call);
        }
        b.due(7, "undo");
        b.due(6, "undo");
        for (int call = 0; call < 3; call++) {
            b.does("setTile", 1, 1, call);
        }
        b.due(7, "undo");
        b.due(1, "openings", 1, 1);
        for (int left = 6; left >= 0; left--) {
            b.due(left, "undo");
        }
        b.due(15, "openings", 1, 1);
        b.due(2, "openings", 0, 0);
        b.due(Bench.STATE, "undo");
    }

    @Sentence(promise = 47, says = NO_CALL)
    static void onANewObjectNothingCanBeUndone(Bench b) {
        b.refused(Bench.STATE, "undo");
        b.refused(Bench.STATE, "undo");
        b.does("pin", 0, 0);
        b.due(0, "undo");
        b.refused(Bench.STATE, "undo");
    }

    @Sentence(promise = 47, says = NO_CALL)
    static void aNinthCallBackCannotBeUndone(Bench b) {
        for (int call = 0; call < 9; call++) {
            b.does("setTile", 0, 0, call);
        }
        for (int call = 7; call >= 0; call--) {
            b.due(call, "undo");
        }
        b.due(0, "openings", 0, 0);
        b.refused(Bench.STATE, "undo");
        b.due(0, "openings", 0, 0);
    }

    @Sentence(promise = 47, says = CHANGING)
    static void eachChangingMethodCanBeUndone(Bench b) {
        for (Object[] change : CHANGES) {
            prepare(b);
            String before = b.boardState();
            does(b, change);
            b.same(false, before.equals(b.boardState()), change[0] + " changes something");
            b.does("undo");
            b.same(withoutUndo(before), withoutUndo(b.boardState()), change[0] + " is undone whole");
        }
    }

    @Sentence(promise = 47, says = CHANGING)
    static void noOtherMethodCanBeUndone(Bench b) {
        b.does("writeRow", 0);
        b.does("append", 'p');
        b.due(Bench.ARGUMENT, "run");
        b.does("save");
        b.does("restore");
        for (String query : new String[] {"regionCount", "regionCountByMerging", "walkerCount", "shiftCount",
            "walkedTotal", "meanOpenings", "isConsistent", "errorPosition"}) {
            b.does(query);
        }
        b.due(Bench.STATE, "undo");
        b.does("addWalker", 0, 0);
        b.does("placeKey", 'a', 2, 2);
        for (String query : new String[] {"walkerRow", "walkerColumn", "keysOf", "reachableCells", "nearestKey",
            "reachableShare"}) {
            b.does(query, 0);
        }
        for (String query : new String[] {"pathLength", "pathLengthByRounds", "firstStep", "helpfulShifts"}) {
            b.does(query, 0, 4, 4);
        }
        for (String query : new String[] {"openings", "isPinned", "hasLock", "keysAt"}) {
            b.does(query, 2, 2);
        }
        b.does("isConnected", 2, 2, 1);
        b.does("keyRow", 'a');
        b.does("outputAt", 0);
        b.does("canShiftRow", 0);
        b.does("canShiftColumn", 0);
        b.due(1, "undo");
        b.due(Bench.ELEMENT, "keyRow", 'a');
    }

    @Sentence(promise = 47, says = EIGHT)
    static void aCallThatChangesNothingCanBeUndone(Bench b) {
        b.does("pin", 4, 4);
        b.does("setTile", 0, 0, 15);
        b.does("turnTile", 0, 0, 2);
        b.does("shiftRow", 0, 1);
        b.does("shiftColumn", 0, -1);
        b.dueRun(1, "tile 00 15");
        b.dueRun(2, "pin 33;unpin 33");
        b.due(6, "undo");
        b.due(5, "undo");
        b.due(4, "undo");
        b.due(1, "shiftCount");
        b.due(3, "undo");
        b.due(2, "undo");
        b.due(1, "undo");
        b.due(true, "isPinned", 4, 4);
        b.due(0, "undo");
        b.due(false, "isPinned", 4, 4);
    }

    @Sentence(promise = 47, says = EIGHT)
    static void theEighthCallBackIsTheLastThatIsUndone(Bench b) {
        for (int calls = 8; calls <= 20; calls++) {
            b.fresh();
            for (int call = 1; call <= calls; call++) {
                b.does("pin", call / 5, call % 5);
            }
            for (int back = 0; back < 8; back++) {
                b.does("undo");
                b.due(false, "isPinned", (calls - back) / 5, (calls - back) % 5);
                b.due(calls - back > 1, "isPinned", (calls - back - 1) / 5, (calls - back - 1) % 5);
            }
            b.due(Bench.STATE, "undo");
        }
    }

    @Sentence(promise = 47, says = EIGHT)
    static void aProgramIsUndoneAsOneCall(Bench b) {
        b.does("pin", 4, 4);
        b.dueRun(8, "pin 00;pin 01;pin 02;pin 03;pin 04;pin 10;pin 11;pin 12");
        b.due(1, "undo");
        b.due(false, "isPinned", 0, 0);
        b.due(false, "isPinned", 1, 2);
        b.due(true, "isPinned", 4, 4);
        b.due(0, "undo");
        b.due(Bench.STATE, "undo");
    }

    @Sentence(promise = 47, says = EIGHT)
    static void aRefusedCallTakesNoRoom(Bench b) {
        for (int call = 0; call < 8; call++) {
            b.does("setTile", 0, 0, call);
        }
        for (int call = 0; call < 9; call++) {
            b.due(Bench.ARGUMENT, "setTile", 0, 0, 16);
            b.dueFailure(1, "tile 00 15;unpin 00");
        }
        for (int left = 7; left >= 0; left--) {
            b.due(left, "undo");
        }
        b.due(15, "openings", 0, 0);
    }

    @Sentence(promise = 47, says = WHOLE_STATE)
    static void undoBringsBackTotalsAndCarriers(Bench b) {
        b.does("addWalker", 0, 0);
        b.does("placeKey", 'a', 0, 1);
        b.does("walk", 0, 0, 1);
        b.does("shiftRow", 0, 1);
        b.does("undo");
        b.due(0, "shiftCount");
        b.due(1, "walkerColumn", 0);
        b.does("undo");
        b.due(0L, "walkedTotal");
        b.due(0, "walkerColumn", 0);
        b.due(1, "keyColumn", 'a');
        b.due(Bench.ELEMENT, "carrierOf", 'a');
        b.does("undo");
        b.due(Bench.ELEMENT, "keyColumn", 'a');
        b.does("undo");
        b.due(0, "walkerCount");
        b.due(Bench.INDEX, "walkerRow", 0);
    }

    @Sentence(promise = 47, says = WHOLE_STATE)
    static void undoLeavesBufferPositionsAndLine(Bench b) {
        b.does("pin", 0, 0);
        b.dueError(3, "pin");
        b.dueFailure(1, "pin 11;pin 00");
        b.does("writeRow", 0);
        b.type("pin 22");
        b.does("undo");
        b.due(3, "errorPosition");
        b.due(1, "failedCommand");
        b.dueLine("F* F F F F");
        b.due(1, "run");
        b.due(true, "isPinned", 2, 2);
        // The program itself is undone, but its text does not come back.
        b.does("undo");
        b.due(false, "isPinned", 2, 2);
        b.due(1, "append", 'p');
    }

    // ---- 48: save

    @Sentence(promise = 48, says = SAVES)
    static void theLastSavedStateCounts(Bench b) {
        b.does("setTile", 0, 0, 1);
        b.does("save");
        b.does("setTile", 0, 0, 2);
        b.does("save");
        b.does("setTile", 0, 0, 3);
        b.does("restore");
        b.due(2, "openings", 0, 0);
    }

    @Sentence(promise = 48, says = SAVES)
    static void anEmptyBoardCanBeSaved(Bench b) {
        String before = b.boardState();
        b.due("nothing", "save");
        fillBoard(b);
        b.does("restore");
        b.same(withoutUndo(before), withoutUndo(b.boardState()), "the restored new board");
    }

    @Sentence(promise = 48, says = SAVES)
    static void aFullBoardCanBeSaved(Bench b) {
        fillBoard(b);
        String before = b.boardState();
        b.due("nothing", "save");
        b.does("removeLock", 4, 4);
        b.does("unpin", 4, 4);
        b.does("setTile", 4, 4, 0);
        b.does("unpin", 4, 0);
        b.does("restore");
        b.same(withoutUndo(before), withoutUndo(b.boardState()), "the restored full board");
    }

    @Sentence(promise = 48, says = "Saving is not a changing call.")
    static void savingCannotBeUndone(Bench b) {
        b.does("save");
        b.due(Bench.STATE, "undo");
        b.does("pin", 0, 0);
        b.does("save");
        b.does("save");
        b.due(0, "undo");
        b.due(false, "isPinned", 0, 0);
        b.due(Bench.STATE, "undo");
    }

    @Sentence(promise = 48, says = "Saving is not a changing call.")
    static void savingTakesNoRoomFromUndo(Bench b) {
        for (int call = 0; call < 8; call++) {
            b.does("setTile", 0, 0, call);
            b.does("save");
        }
        for (int left = 7; left >= 0; left--) {
            b.due(left, "undo");
        }
        b.due(15, "openings", 0, 0);
    }

    @Sentence(promise = 48, says = WHOLE_STATE)
    static void undoDoesNotTouchWhatIsSaved(Bench b) {
        b.does("pin", 0, 4);
        b.does("save");
        b.does("undo");
        b.due(false, "isPinned", 0, 4);
        b.does("restore");
        b.due(true, "isPinned", 0, 4);
    }

    // ---- 49: restore

    @Sentence(promise = 49, says = RESTORES)
    static void theSavedStateStaysSaved(Bench b) {
        b.does("addWalker", 1, 1);
        b.does("setTile", 2, 2, 9);
        b.does("save");
        for (int round = 0; round < 3; round++) {
            b.does("setTile", 2, 2, round);
            b.does("walk", 0, 4, 4);
            b.does("shiftRow", 2, 1);
            b.due("nothing", "restore");
            b.due(9, "openings", 2, 2);
            b.due(1, "walkerRow", 0);
            b.due(0L, "walkedTotal");
            b.due(0, "shiftCount");
        }
        // Also twice with nothing between.
        b.due("nothing", "restore");
        b.due(9, "openings", 2, 2);
    }

    @Sentence(promise = 49, says = RESTORES)
    static void whatChangesAfterRestoreIsNotSaved(Bench b) {
        b.does("save");
        b.does("restore");
        b.does("pin", 0, 0);
        b.does("undo");
        b.does("pin", 1, 1);
        b.does("restore");
        b.due(false, "isPinned", 0, 0);
        b.due(false, "isPinned", 1, 1);
    }

    @Sentence(promise = 49, says = "Afterwards no call can be undone.")
    static void nothingCanBeUndoneAfterRestore(Bench b) {
        b.does("pin", 0, 0);
        b.does("pin", 1, 1);
        b.does("save");
        b.does("pin", 2, 2);
        b.does("restore");
        b.refused(Bench.STATE, "undo");
        b.due(true, "isPinned", 1, 1);
        // From there on it is counted anew.
        for (int call = 0; call < 9; call++) {
            b.does("setTile", 0, 0, call);
        }
        for (int left = 7; left >= 0; left--) {
            b.due(left, "undo");
        }
        b.due(0, "openings", 0, 0);
        b.due(Bench.STATE, "undo");
    }

    @Sentence(promise = 49, says = "Afterwards no call can be undone.")
    static void evenARestoreThatChangesNothingEndsUndo(Bench b) {
        b.does("pin", 0, 0);
        b.does("save");
        b.does("restore");
        b.refused(Bench.STATE, "undo");
        b.due(true, "isPinned", 0, 0);
    }

    @Sentence(promise = 49, says = "Throws `IllegalStateException` if no state was saved")
    static void withoutASavedStateNothingIsRestored(Bench b) {
        b.refused(Bench.STATE, "restore");
        b.does("pin", 0, 0);
        b.does("undo");
        b.does("pin", 1, 1);
        b.refused(Bench.STATE, "restore");
        // What could be undone before can still be undone.
        b.due(0, "undo");
        b.due(false, "isPinned", 1, 1);
        b.does("save");
        b.due("nothing", "restore");
    }

    @Sentence(promise = 49, says = WHOLE_STATE)
    static void restoreLeavesBufferPositionsAndLine(Bench b) {
        b.does("pin", 0, 0);
        b.does("save");
        b.does("unpin", 0, 0);
        b.dueError(3, "pin");
        b.dueFailure(1, "pin 11;unpin 00");
        b.does("writeRow", 0);
        b.type("pin 22");
        b.does("restore");
        b.due(3, "errorPosition");
        b.due(1, "failedCommand");
        b.dueLine("F F F F F");
        b.due(1, "run");
        b.due(true, "isPinned", 2, 2);
        b.due(true, "isPinned", 0, 0);
        // Nor does a restore bring back an emptied buffer.
        b.does("restore");
        b.due(1, "append", 'p');
    }

    @Sentence(promise = 49, says = WHOLE_STATE)
    static void restoreBringsTheWholeStateBack(Bench b) {
        for (Object[] change : CHANGES) {
            prepare(b);
            b.does("save");
            String before = b.boardState();
            does(b, change);
            b.does("restore");
            b.same(withoutUndo(before), withoutUndo(b.boardState()), "the state restored after " + change[0]);
        }
    }

    @Sentence(promise = 49, says = NOTHING_CHANGES)
    static void aRefusedUndoOrRestoreChangesNothing(Bench b) {
        b.type("pin 00");
        b.refused(Bench.STATE, "undo");
        b.refused(Bench.STATE, "restore");
        b.due(1, "run");
        b.due(0, "undo");
    }

    // ---- what the tests share

    /** Leaves a new object on which each of the changes changes something. */
    private static void prepare(Bench b) {
        b.fresh();
        b.does("setTile", 0, 1, 6);
        b.does("setTile", 3, 2, 1);
        b.does("placeKey", 'a', 2, 2);
        b.does("addLock", 3, 3, 'b');
        b.does("addWalker", 1, 1);
        b.does("pin", 4, 4);
        // The text for the run among the changes.
        b.type("pin 00;pin 01");
    }

    private static void does(Bench b, Object[] change) {
        b.does((String) change[0], java.util.Arrays.copyOfRange(change, 1, change.length));
    }

    private static void fillBoard(Bench b) {
        for (char key = 'a'; key <= 'f'; key++) {
            b.does("placeKey", key, 1, key % 5);
        }
        for (int walker = 0; walker < 3; walker++) {
            b.does("addWalker", 1, walker);
        }
        b.does("walk", 0, 2, 2);
        b.does("shiftRow", 3, 1);
        for (int cell = 0; cell < 25; cell++) {
            b.does("setTile", cell / 5, cell % 5, cell % 16);
            b.does("addLock", cell / 5, cell % 5, (char) ('a' + cell % 6));
            b.does("pin", cell / 5, cell % 5);
        }
    }

    /** The board now, without what undo and restore would make of it. */
    private static String withoutUndo(String boardState) {
        return boardState.substring(0, boardState.indexOf("undo "));
    }
}
