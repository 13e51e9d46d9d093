/** Tests of the sentences of promises 41 to 46: programs and output. */
public final class ProgramBoundaryTest {
    private static final String BUFFER_ROOM = "The text buffer holds at most 60 characters.";
    private static final String NOTHING_CHANGES = "If a call throws an exception, nothing changes, except that run"
            + " empties the text buffer and stores the error position or the failed command.";
    private static final String FIRST_LISTED =
            "If several conditions of a method apply, the exception that is listed first is thrown.";
    private static final String RUNS = "Runs the text buffer as a program.";
    private static final String ALL_OR_NONE = "If one of them fails, none of them has an effect.";
    private static final String EMPTIED = "The buffer is empty afterwards in every case.";
    private static final String NO_PROGRAM = "Throws `IllegalArgumentException` if the text is not a program; the error"
            + " position is stored";
    private static final String COMMAND_FAILS = "Throws `UnsupportedOperationException` if a command fails, that is, if"
            + " its method would throw an exception; the index of the command, from 0, is stored as the failed command";
    private static final String COMMANDS_ON_TILES = "command = \"tile \" cell \" \" number | \"turn \" cell \" \" digit"
            + " | \"pin \" cell | \"unpin \" cell | \"row \" digit sign digit | \"column \" digit sign digit";
    private static final String OTHER_COMMANDS = "| \"key \" letter \" \" cell | \"lock \" cell \" \" letter"
            + " | \"open \" cell | \"enter \" cell | \"walk \" digit \" \" cell";
    private static final String ERROR_POSITION = "The error position of a text that is not a program is the index of"
            + " the first character that cannot continue any program with the same preceding characters, or the length"
            + " of the text if the text is a proper prefix of a program.";
    private static final String NONE_STORED = "Throws `NoSuchElementException` if none was stored";
    private static final String WRITES = "Writes a row to the output line, replacing its content: for each column the"
            + " openings as a digit or as 'A' to 'F' for 10 to 15, \"*\" if the tile is pinned, \"#\" and the key that"
            + " fits its lock if it has one, \"@\" if at least one walker stands on it, and the keys that lie on it in"
            + " alphabetical order, with a blank between two columns; for example \"F* 3#a 5@ Fbd 0\".";
    private static final String NO_INDEX =
            "Throws `IndexOutOfBoundsException` if the index is negative or not less than the length of the line";
    private static final String[] EACH_COMMAND = {"tile 12 7", "tile 12 15", "turn 12 1", "pin 12", "unpin 12",
        "row 1+2", "column 1-2", "key a 12", "lock 12 f", "open 12", "enter 12", "walk 0 12"};
    // Eight commands, the most that there is room for.
    private static final String EIGHT = "pin 00;pin 01;pin 02;pin 03;pin 04;pin 10;pin 11;pin 12";
    private static final String SIXTY = "tile 00 0;tile 01 1;tile 02 2;tile 03 3;tile 04 4;tile 10 15";

    private ProgramBoundaryTest() {
    }

    public static void main(String[] args) {
        Sentences.run(ProgramBoundaryTest.class);
    }

    // ---- 41: append

    @Sentence(promise = 41, says = "Appends a character to the text buffer.")
    static void charactersAreAppendedInTheirOrder(Bench b) {
        for (char character : "pin 31".toCharArray()) {
            b.does("append", character);
        }
        b.due(1, "run");
        b.due(true, "isPinned", 3, 1);
        b.due(false, "isPinned", 1, 3);
    }

    @Sentence(promise = 41, says = "`character`: any character")
    static void anyCharacterIsAppended(Bench b) {
        int count = 0;
        for (int character : new int[] {0, 1, 10, 13, ' ', ';', '~', 127, 128, 255, 256, 0xD800, 0xDFFF, 0xFFFF}) {
            count++;
            b.due(count, "append", (char) character);
        }
        b.due(Bench.ARGUMENT, "run");
        // A character that only looks like one of the grammar's in its lower half is none.
        b.dueError(0, (char) ('p' + 256) + "in 00");
        b.dueError(4, "pin " + (char) ('0' + 256) + "0");
        b.dueError(4, "pin " + (char) 0x0660 + "0");
        b.dueError(4, "key " + (char) ('a' + 256) + " 00");
    }

    @Sentence(promise = 41, says = "Returns the number of characters in the buffer after the call.")
    static void charactersAreCountedFrom1To60(Bench b) {
        for (int round = 0; round < 2; round++) {
            for (int count = 1; count <= 60; count++) {
                b.due(count, "append", 'x');
            }
            b.due(Bench.ARGUMENT, "run");
        }
        b.due(1, "append", 'x');
    }

    @Sentence(promise = 41, says = "Throws `IllegalStateException` if the buffer contains 60 characters")
    static void a61stCharacterIsRefused(Bench b) {
        b.type(SIXTY);
        b.refused(Bench.STATE, "append", '6');
        b.refused(Bench.STATE, "append", ';');
        b.due(6, "run");
        b.due(1, "append", 'p');
    }

    @Sentence(promise = 41, says = BUFFER_ROOM)
    static void aFullBufferStaysFullUntilItRuns(Bench b) {
        b.type(EIGHT + ";pin ");
        b.refused(Bench.STATE, "append", '1');
        b.does("pin", 4, 4);
        b.does("undo");
        b.does("save");
        b.does("restore");
        b.refused(Bench.STATE, "append", '1');
        b.due(Bench.ARGUMENT, "run");
        b.due(1, "append", '1');
    }

    // ---- 42: run

    @Sentence(promise = 42, says = RUNS)
    static void theShortestAndTheLongestProgramRun(Bench b) {
        b.dueRun(1, "pin 44");
        b.due(true, "isPinned", 4, 4);
        b.dueRun(6, SIXTY);
        b.due(15, "openings", 1, 0);
        b.due(4, "openings", 0, 4);
    }

    @Sentence(promise = 42, says = RUNS)
    static void whatRanBeforeIsNotRunAgain(Bench b) {
        b.dueRun(2, "tile 33 12;tile 22 5");
        b.dueRun(1, "tile 33 1");
        b.due(1, "openings", 3, 3);
        b.due(5, "openings", 2, 2);
        b.dueError(5, "tile ");
        b.due(1, "openings", 3, 3);
    }

    @Sentence(promise = 42, says = "The commands are carried out in order.")
    static void eachCommandMeetsWhatThoseBeforeItLeft(Bench b) {
        b.dueRun(4, "key b 00;enter 00;tile 11 0;tile 11 3");
        b.due(0, "carrierOf", 'b');
        b.due(3, "openings", 1, 1);
        b.dueRun(4, "lock 01 b;walk 0 01;row 0+1;walk 0 01");
        b.due(1, "walkerColumn", 0);
        b.due('b', "lockAt", 0, 2);
        b.dueRun(4, "pin 44;unpin 44;row 4+1;pin 44");
        b.dueFailure(1, "pin 33;row 3+1;unpin 33");
        b.due(2, "shiftCount");
    }

    @Sentence(promise = 42, says = ALL_OR_NONE)
    static void aFailureAtTheEndUndoesAll(Bench b) {
        b.does("addWalker", 0, 0);
        b.does("addLock", 3, 3, 'c');
        String before = b.boardState();
        b.dueFailure(6, "key a 01;walk 0 01;lock 44 a;row 0+1;open 33;pin 22;pin 22");
        b.same(before, b.boardState(), "the state after a program whose last command fails");
        b.dueFailure(5, "tile 00 3;turn 11 1;column 4-2;enter 44;enter 44;enter 44");
        b.same(before, b.boardState(), "the state after another one");
    }

    @Sentence(promise = 42, says = ALL_OR_NONE)
    static void aFailureAtTheBeginningLetsNothingFollow(Bench b) {
        String before = b.boardState();
        b.dueFailure(0, "unpin 00;pin 00;row 1+1");
        b.same(before, b.boardState(), "the state after a program whose first command fails");
        b.dueFailure(1, "pin 00;pin 00;pin 01;row 1+1");
        b.same(before, b.boardState(), "the state after a program whose second command fails");
    }

    @Sentence(promise = 42, says = EMPTIED)
    static void theBufferIsEmptyAfterASuccess(Bench b) {
        b.dueRun(1, "pin 00");
        b.due(1, "append", 'p');
    }

    @Sentence(promise = 42, says = EMPTIED)
    static void theBufferIsEmptyAfterATextThatIsNoProgram(Bench b) {
        b.dueError(3, "pin");
        b.due(1, "append", 'p');
        b.does("append", 'x');
        b.due(Bench.ARGUMENT, "run");
        b.due(1, "append", 'p');
    }

    @Sentence(promise = 42, says = EMPTIED)
    static void theBufferIsEmptyAfterAFailure(Bench b) {
        b.dueFailure(0, "unpin 00");
        b.due(1, "append", 'p');
    }

    @Sentence(promise = 42, says = EMPTIED)
    static void anEmptyBufferStaysEmpty(Bench b) {
        b.dueError(0, "");
        b.dueError(0, "");
        b.due(1, "append", 'p');
    }

    @Sentence(promise = 42, says = "Returns the number of commands.")
    static void from1To8CommandsAreCounted(Bench b) {
        for (int count = 1; count <= 8; count++) {
            b.fresh();
            b.dueRun(count, EIGHT.substring(0, 7 * count - 1));
            b.due(count + 1, "pin", 4, 4);
        }
    }

    @Sentence(promise = 42, says = NO_PROGRAM)
    static void theEmptyTextIsNoProgram(Bench b) {
        String before = b.boardState();
        b.due(Bench.ARGUMENT, "run");
        b.due(0, "errorPosition");
        b.due(Bench.ELEMENT, "failedCommand");
        b.same(before, b.boardState(), "the state after the empty text");
    }

    @Sentence(promise = 42, says = NO_PROGRAM)
    static void aTextThatGoesWrongAtItsEndHasNoEffect(Bench b) {
        String before = b.boardState();
        b.dueError(55, EIGHT + " ");
        b.dueError(56, EIGHT + ";");
        b.dueError(60, EIGHT + ";pin ");
        b.same(before, b.boardState(), "the state after texts that are no programs");
        b.due(Bench.ELEMENT, "failedCommand");
    }

    @Sentence(promise = 42, says = COMMAND_FAILS)
    static void theFailedCommandIsFrom0To7(Bench b) {
        for (int count = 0; count < 7; count++) {
            b.fresh();
            String fine = count == 0 ? "" : EIGHT.substring(0, 7 * count - 1) + ";";
            b.dueFailure(count, fine + "row 0+0");
            b.due(Bench.ELEMENT, "errorPosition");
        }
        b.fresh();
        b.dueFailure(7, EIGHT.substring(0, 49) + "pin 99");
    }

    @Sentence(promise = 42, says = COMMAND_FAILS)
    static void tileFailsAsSetTileDoes(Bench b) {
        dueFailures(b, "tile 50 0", "tile 05 0", "tile 99 0", "tile 00 16", "tile 00 99");
        b.dueRun(2, "tile 44 15;tile 44 0");
    }

    @Sentence(promise = 42, says = COMMAND_FAILS)
    static void turnFailsAsTurnTileDoes(Bench b) {
        b.does("pin", 0, 0);
        dueFailures(b, "turn 50 1", "turn 05 1", "turn 11 0", "turn 11 4", "turn 11 9", "turn 00 1");
        b.dueRun(2, "turn 11 1;turn 44 3");
    }

    @Sentence(promise = 42, says = COMMAND_FAILS)
    static void pinAndUnpinFailAsTheirMethodsDo(Bench b) {
        b.does("pin", 0, 0);
        dueFailures(b, "pin 50", "pin 05", "pin 00", "unpin 50", "unpin 05", "unpin 01");
        b.dueRun(2, "pin 44;unpin 44");
    }

    @Sentence(promise = 42, says = COMMAND_FAILS)
    static void rowAndColumnFailAsTheShiftsDo(Bench b) {
        b.does("pin", 1, 2);
        dueFailures(b, "row 5+1", "row 9-1", "row 0+0", "row 0-0", "row 0+5", "row 0-5", "row 0+9", "row 1+1",
                "column 5+1", "column 9-1", "column 0+0", "column 0-0", "column 0+5", "column 0-5", "column 2-1");
        b.dueRun(4, "row 0+4;row 4-4;column 0+4;column 4-4");
        b.due(4, "shiftCount");
    }

    @Sentence(promise = 42, says = COMMAND_FAILS)
    static void keyFailsAsPlaceKeyDoes(Bench b) {
        b.does("placeKey", 'a', 0, 0);
        b.does("placeKey", 'f', 1, 1);
        b.does("addWalker", 1, 1);
        dueFailures(b, "key b 50", "key b 05", "key a 00", "key a 01", "key f 01");
        b.dueRun(2, "key b 44;key e 44");
    }

    @Sentence(promise = 42, says = COMMAND_FAILS)
    static void lockAndOpenFailAsTheirMethodsDo(Bench b) {
        b.does("addLock", 0, 0, 'a');
        dueFailures(b, "lock 50 a", "lock 05 a", "lock 00 a", "lock 00 b", "open 50", "open 05", "open 01");
        b.dueRun(3, "lock 44 f;open 44;open 00");
    }

    @Sentence(promise = 42, says = COMMAND_FAILS)
    static void enterAndWalkFailAsTheirMethodsDo(Bench b) {
        b.does("addLock", 0, 0, 'a');
        b.does("addWalker", 4, 4);
        dueFailures(b, "enter 50", "enter 05", "enter 00", "enter 11;enter 11;enter 11", "walk 1 00", "walk 9 00",
                "walk 0 50", "walk 0 05", "walk 0 44", "walk 0 00");
        b.dueRun(3, "enter 11;enter 11;walk 2 44");
    }

    @Sentence(promise = 42, says = FIRST_LISTED)
    static void theTextIsReadBeforeAnyCommandFails(Bench b) {
        b.dueError(8, "unpin 000");
        b.dueError(9, "unpin 00;");
        b.dueError(9, "unpin 00;x");
        b.due(Bench.ELEMENT, "failedCommand");
    }

    @Sentence(promise = 42, says = NOTHING_CHANGES)
    static void aRefusedRunStoresItsPositionOnly(Bench b) {
        b.does("pin", 2, 2);
        b.does("save");
        b.does("writeRow", 2);
        String before = b.boardState();
        b.dueError(2, "pi");
        b.due(Bench.ELEMENT, "failedCommand");
        b.dueFailure(1, "pin 00;pin 22");
        b.due(2, "errorPosition");
        b.same(before, b.boardState(), "the state after refused runs");
        b.dueLine("F F F* F F");
    }

    @Sentence(promise = 42, says = "program = command { \";\" command }")
    static void commandsArePartedByOneSemicolon(Bench b) {
        b.dueRun(1, "pin 00");
        b.dueRun(2, "pin 01;pin 02");
        b.dueRun(3, "pin 03;pin 04;unpin 03");
        b.dueError(0, ";");
        b.dueError(0, ";pin 11");
        b.dueError(7, "pin 11;");
        b.dueError(7, "pin 11;;pin 12");
        b.dueError(7, "pin 11; pin 12");
        b.dueError(6, "pin 11 ;pin 12");
        b.dueError(6, "pin 11pin 12");
        b.dueError(6, "pin 11,pin 12");
    }

    @Sentence(promise = 42, says = COMMANDS_ON_TILES)
    static void commandsOnTilesAreWrittenWithOneBlank(Bench b) {
        b.dueRun(6, "tile 00 3;turn 00 1;pin 00;unpin 00;row 0+1;column 1-1");
        b.due(6, "openings", 4, 1);
        b.dueError(4, "tile00 3");
        b.dueError(5, "tile  00 3");
        b.dueError(7, "tile 003");
        b.dueError(8, "tile 00  3");
        b.dueError(7, "tile 00");
        b.dueError(9, "turn 00 12");
        b.dueError(8, "turn 00 -1");
        b.dueError(6, "pin 000");
        b.dueError(8, "unpin 000");
        b.dueError(5, "row 0 +1");
        b.dueError(5, "row 01");
        b.dueError(5, "row 00+1");
        b.dueError(7, "row 0+11");
        b.dueError(8, "column 00+1");
        b.dueError(10, "column 0+11");
        b.dueError(10, "column 0+1 ");
        b.dueError(0, "Pin 00");
        b.dueError(1, "pIN 00");
    }

    @Sentence(promise = 42, says = OTHER_COMMANDS)
    static void otherCommandsAreWrittenWithOneBlank(Bench b) {
        b.dueRun(5, "key a 01;lock 02 a;enter 00;walk 0 01;open 02");
        b.due(0, "carrierOf", 'a');
        b.due(false, "hasLock", 0, 2);
        b.dueError(3, "keya 01");
        b.dueError(5, "key a01");
        b.dueError(4, "key 01 a");
        b.dueError(7, "lock 02a");
        b.dueError(5, "lock a 02");
        b.dueError(7, "lock 02");
        b.dueError(7, "open 022");
        b.dueError(8, "enter 000");
        b.dueError(6, "walk 001");
        b.dueError(6, "walk 00 01");
        b.dueError(7, "walk 0  1");
        b.dueError(9, "walk 0 011");
        b.dueError(8, "walk 0 0");
    }

    @Sentence(promise = 42, says = "cell = digit digit")
    static void aCellHasTwoDigits(Bench b) {
        b.dueRun(2, "pin 00;pin 44");
        b.dueFailure(0, "pin 99");
        b.dueFailure(0, "pin 05");
        b.dueError(5, "pin 0");
        b.dueError(6, "pin 000");
        b.dueError(4, "pin -0");
        b.dueError(5, "pin 0/");
        b.dueError(5, "pin 0:");
        b.dueError(4, "pin /0");
        b.dueError(4, "pin :0");
    }

    @Sentence(promise = 42, says = "cell = digit digit")
    static void noCellOfACommandHasThreeDigitsOrOne(Bench b) {
        b.dueError(7, "tile 000 1");
        b.dueError(6, "tile 0 1");
        b.dueError(7, "turn 000 1");
        b.dueError(6, "turn 0 1");
        b.dueError(8, "unpin 000");
        b.dueError(7, "unpin 0");
        b.dueError(8, "key a 000");
        b.dueError(7, "key a 0;");
        b.dueError(7, "lock 000 a");
        b.dueError(6, "lock 0 a");
        b.dueError(7, "open 000");
        b.dueError(6, "open 0");
        b.dueError(8, "enter 000");
        b.dueError(7, "enter 0");
        b.dueError(9, "walk 0 000");
        b.dueError(8, "walk 0 0;");
    }

    @Sentence(promise = 42, says = "A cell is written as its row and its column.")
    static void theRowComesFirst(Bench b) {
        b.dueRun(2, "pin 04;lock 31 c");
        b.due(true, "isPinned", 0, 4);
        b.due(false, "isPinned", 4, 0);
        b.due('c', "lockAt", 3, 1);
        b.due(false, "hasLock", 1, 3);
    }

    @Sentence(promise = 42, says = "sign = \"+\" | \"-\"")
    static void aSignIsPlusOrMinus(Bench b) {
        b.does("addWalker", 2, 2);
        b.dueRun(1, "row 2+1");
        b.due(3, "walkerColumn", 0);
        b.dueRun(1, "row 2-2");
        b.due(1, "walkerColumn", 0);
        b.dueRun(1, "column 1-1");
        b.due(1, "walkerRow", 0);
        b.dueRun(1, "column 1+2");
        b.due(3, "walkerRow", 0);
        for (char wrong : "*,./ 0=".toCharArray()) {
            b.dueError(5, "row 2" + wrong + "1");
            b.dueError(8, "column 2" + wrong + "1");
        }
    }

    @Sentence(promise = 42, says = "letter = \"a\" | \"b\" | \"c\" | \"d\" | \"e\" | \"f\"")
    static void lettersAreFromAToF(Bench b) {
        for (char letter = 'a'; letter <= 'f'; letter++) {
            b.dueRun(1, "key " + letter + " 12");
            b.due(1, "keyRow", letter);
            b.dueRun(1, "lock 33 " + letter);
            b.due(letter, "lockAt", 3, 3);
            b.dueRun(1, "open 33");
        }
        for (char wrong : "`gAF0 ".toCharArray()) {
            b.dueError(4, "key " + wrong + " 12");
            b.dueError(8, "lock 33 " + wrong);
        }
    }

    @Sentence(promise = 42, says = "number = digit [ digit ]")
    static void aNumberHasOneOrTwoDigits(Bench b) {
        b.dueRun(1, "tile 11 0");
        b.due(0, "openings", 1, 1);
        b.dueRun(1, "tile 11 9");
        b.due(9, "openings", 1, 1);
        b.dueRun(1, "tile 11 00");
        b.due(0, "openings", 1, 1);
        b.dueRun(1, "tile 11 07");
        b.due(7, "openings", 1, 1);
        b.dueRun(1, "tile 11 10");
        b.due(10, "openings", 1, 1);
        b.dueRun(2, "tile 11 15;tile 12 1");
        b.due(15, "openings", 1, 1);
        b.due(1, "openings", 1, 2);
        b.dueFailure(0, "tile 11 16");
        b.dueFailure(0, "tile 11 99");
        b.dueError(8, "tile 11 ");
        b.dueError(10, "tile 11 015");
        b.dueError(9, "tile 11 1 ");
        b.dueError(8, "tile 11 -1");
        b.dueError(8, "tile 11 F");
        b.dueError(8, "tile 11 ;");
    }

    @Sentence(promise = 42, says = "The commands call setTile (row, column, openings), turnTile (row, column, quarter"
            + " turns), pin, unpin, shiftRow (row, steps), shiftColumn (column, steps), placeKey (key, row, column),"
            + " addLock (row, column, key), removeLock, addWalker and walk (walker, row, column).")
    static void eachCommandCallsItsMethod(Bench b) {
        String[] commands = {"tile 21 6", "turn 21 3", "pin 34", "unpin 40", "row 2-1", "column 3+2", "key e 01",
            "lock 12 d", "open 03", "enter 32", "walk 1 43"};
        Object[][] calls = {{"setTile", 2, 1, 6}, {"turnTile", 2, 1, 3}, {"pin", 3, 4}, {"unpin", 4, 0},
            {"shiftRow", 2, -1}, {"shiftColumn", 3, 2}, {"placeKey", 'e', 0, 1}, {"addLock", 1, 2, 'd'},
            {"removeLock", 0, 3}, {"addWalker", 3, 2}, {"walk", 1, 4, 3}};
        for (int index = 0; index < commands.length; index++) {
            prepare(b);
            b.dueRun(1, commands[index]);
            String byCommand = b.boardState();
            prepare(b);
            Object[] call = calls[index];
            b.does((String) call[0], java.util.Arrays.copyOfRange(call, 1, call.length));
            b.same(b.boardState(), byCommand, commands[index]);
        }
    }

    /** Leaves a new object with which each of the commands above changes something. */
    private static void prepare(Bench b) {
        b.fresh();
        b.does("setTile", 2, 1, 5);
        b.does("setTile", 0, 3, 7);
        b.does("pin", 4, 0);
        b.does("addLock", 0, 3, 'c');
        b.does("addWalker", 0, 0);
        b.does("addWalker", 1, 0);
    }

    // ---- 43: errorPosition

    @Sentence(promise = 43, says = "Returns the error position that was stored last.")
    static void theLastErrorPositionStays(Bench b) {
        b.dueError(3, "pin");
        b.dueError(0, "");
        b.dueError(4, "pin x");
        b.dueRun(1, "pin 00");
        b.due(4, "errorPosition");
        b.dueFailure(0, "pin 00");
        b.due(4, "errorPosition");
        b.type("x");
        b.due(4, "errorPosition");
    }

    @Sentence(promise = 43, says = "Returns the error position.")
    static void errorPositionsAreFrom0To60(Bench b) {
        b.dueError(0, "x");
        b.dueError(0, "");
        b.dueError(60, EIGHT + ";row ");
        b.dueError(59, EIGHT + ";row,");
        b.dueError(59, SIXTY.substring(0, 59) + "x");
        b.dueError(60, EIGHT.substring(0, 49) + "tile 33 1;t");
    }

    @Sentence(promise = 43, says = NONE_STORED)
    static void withoutAWrongTextThereIsNoErrorPosition(Bench b) {
        b.refused(Bench.ELEMENT, "errorPosition");
        b.dueRun(1, "pin 00");
        b.refused(Bench.ELEMENT, "errorPosition");
        b.dueFailure(1, "pin 01;pin 00");
        b.refused(Bench.ELEMENT, "errorPosition");
        b.type("x");
        b.refused(Bench.ELEMENT, "errorPosition");
    }

    @Sentence(promise = 43, says = ERROR_POSITION)
    static void aProperPrefixGoesWrongAtItsEnd(Bench b) {
        for (String before : new String[] {"", "pin 00;", "tile 00 15;row 0-1;"}) {
            for (String command : EACH_COMMAND) {
                b.fresh();
                for (int end = 0; end < command.length(); end++) {
                    if (!"tile 12 1".equals(command.substring(0, end))) {
                        b.dueError(before.length() + end, before + command.substring(0, end));
                    }
                }
                b.dueError(before.length() + command.length() + 1, before + command + ";");
            }
        }
    }

    @Sentence(promise = 43, says = ERROR_POSITION)
    static void aStrangeCharacterIsTheErrorWhereverItStands(Bench b) {
        for (String before : new String[] {"", "pin 00;"}) {
            for (String command : EACH_COMMAND) {
                for (char strange : new char[] {'!', ';', 0}) {
                    b.fresh();
                    for (int at = 0; at <= command.length(); at++) {
                        boolean mayEnd = at == command.length() || at == 9 && command.equals("tile 12 15");
                        if (strange != ';' || !mayEnd) {
                            b.dueError(before.length() + at, before + command.substring(0, at) + strange);
                        }
                    }
                }
            }
        }
    }

    @Sentence(promise = 43, says = ERROR_POSITION)
    static void commandsThatBeginAlikePartAtTheFirstDifference(Bench b) {
        b.dueError(1, "ten");
        b.dueError(2, "tirn 00 1");
        b.dueError(2, "tule 00 1");
        b.dueError(1, "pun 00");
        b.dueError(1, "uin 00");
        b.dueError(1, "lick 00 a");
        b.dueError(1, "wilk 0 00");
        b.dueError(1, "epen 00");
        b.dueError(1, "onter 00");
        b.dueError(1, "cey a 00");
        b.dueError(1, "rin 00");
        b.dueError(4, "tileturn");
        b.dueError(0, "DD");
        b.dueError(5, "tile DD N");
        b.dueError(4, "row DSD");
        b.dueError(4, "key L 00");
    }

    // ---- 44: failedCommand

    @Sentence(promise = 44, says = "Returns the failed command that was stored last.")
    static void theLastFailedCommandStays(Bench b) {
        b.dueFailure(2, "pin 00;pin 01;pin 00");
        b.dueFailure(0, "unpin 00");
        b.dueFailure(1, "pin 00;pin 00;unpin 44");
        b.dueRun(1, "pin 00");
        b.due(1, "failedCommand");
        b.dueError(3, "pin");
        b.due(1, "failedCommand");
        b.type("unpin 44");
        b.due(1, "failedCommand");
    }

    @Sentence(promise = 44, says = "Returns the index of the command.")
    static void failedCommandsAreFrom0To7(Bench b) {
        b.dueFailure(0, "unpin 00");
        b.dueFailure(7, EIGHT.substring(0, 49) + "pin 00");
        b.dueFailure(3, "pin 00;pin 01;pin 02;pin 55;pin 99");
    }

    @Sentence(promise = 44, says = NONE_STORED)
    static void withoutAFailureThereIsNoFailedCommand(Bench b) {
        b.refused(Bench.ELEMENT, "failedCommand");
        b.dueRun(1, "pin 00");
        b.refused(Bench.ELEMENT, "failedCommand");
        b.dueError(8, "unpin 44x");
        b.refused(Bench.ELEMENT, "failedCommand");
        b.due(Bench.STATE, "unpin", 4, 4);
        b.refused(Bench.ELEMENT, "failedCommand");
    }

    // ---- 45: writeRow

    @Sentence(promise = 45, says = WRITES)
    static void theExampleIsWritten(Bench b) {
        b.does("pin", 2, 0);
        b.does("setTile", 2, 1, 3);
        b.does("addLock", 2, 1, 'a');
        b.does("setTile", 2, 2, 5);
        b.does("addWalker", 2, 2);
        b.does("placeKey", 'd', 2, 3);
        b.does("placeKey", 'b', 2, 3);
        b.does("setTile", 2, 4, 0);
        b.dueRow("F* 3#a 5@ Fbd 0", 2);
    }

    @Sentence(promise = 45, says = WRITES)
    static void openingsAreWrittenAs0To9AndAToF(Bench b) {
        for (int cell = 0; cell < 16; cell++) {
            b.does("setTile", cell / 5, cell % 5, cell);
        }
        b.dueRow("0 1 2 3 4", 0);
        b.dueRow("5 6 7 8 9", 1);
        b.dueRow("A B C D E", 2);
        b.dueRow("F F F F F", 3);
    }

    @Sentence(promise = 45, says = WRITES)
    static void pinsAreWritten(Bench b) {
        b.does("pin", 0, 4);
        b.does("pin", 1, 0);
        b.dueRow("F F F F F*", 0);
        b.dueRow("F* F F F F", 1);
        b.does("unpin", 0, 4);
        b.dueRow("F F F F F", 0);
    }

    @Sentence(promise = 45, says = WRITES)
    static void locksAreWrittenWithTheirKeysFromAToF(Bench b) {
        for (char key = 'a'; key <= 'f'; key++) {
            b.does("addLock", 4, 4, key);
            b.dueRow("F F F F F#" + key, 4);
            b.does("removeLock", 4, 4);
        }
        b.dueRow("F F F F F", 4);
    }

    @Sentence(promise = 45, says = WRITES)
    static void oneToThreeWalkersAreOneSign(Bench b) {
        for (int walkers = 1; walkers <= 3; walkers++) {
            b.does("addWalker", 3, 0);
            b.dueRow("F@ F F F F", 3);
        }
        b.does("walk", 2, 3, 4);
        b.dueRow("F@ F F F F@", 3);
        b.dueRow("F F F F F", 2);
    }

    @Sentence(promise = 45, says = WRITES)
    static void keysAreWrittenInAlphabeticalOrder(Bench b) {
        for (char key = 'f'; key >= 'a'; key--) {
            b.does("placeKey", key, 1, 1);
        }
        b.dueRow("F Fabcdef F F F", 1);
        // Keys that are carried are not written.
        b.does("addWalker", 1, 1);
        b.dueRow("F F@ F F F", 1);
    }

    @Sentence(promise = 45, says = WRITES)
    static void aRowIsWrittenInPlaceOfTheFormerOne(Bench b) {
        b.does("pin", 0, 0);
        b.does("addLock", 0, 1, 'a');
        b.does("setTile", 1, 0, 1);
        b.dueRow("F* F#a F F F", 0);
        b.dueRow("1 F F F F", 1);
        // What is written stays when the board changes.
        b.does("setTile", 1, 0, 2);
        b.dueLine("1 F F F F");
        b.dueRow("2 F F F F", 1);
    }

    @Sentence(promise = 45, says = "Returns the length of the line.")
    static void linesAreFrom9To33Long(Bench b) {
        for (int row = 0; row < Bench.SIDE; row++) {
            b.due(9, "writeRow", row);
        }
        for (int column = 0; column < Bench.SIDE; column++) {
            b.does("pin", 0, column);
            b.due(10 + column, "writeRow", 0);
        }
        for (int walker = 0; walker < 3; walker++) {
            b.does("addWalker", 0, 4 - walker);
            b.due(15 + walker, "writeRow", 0);
        }
        for (int column = 0; column < Bench.SIDE; column++) {
            b.does("addLock", 0, column, 'f');
            b.due(19 + 2 * column, "writeRow", 0);
        }
        for (char key = 'f'; key >= 'a'; key--) {
            b.does("placeKey", key, 0, 4);
            b.due(28 + 'f' - key, "writeRow", 0);
        }
        b.dueRow("F*#f F*#f F*#f@ F*#f@ F*#f@abcdef", 0);
    }

    @Sentence(promise = 45, says = "Throws `IndexOutOfBoundsException` if there is no such row")
    static void writeRowNeedsARow(Bench b) {
        b.refusedLines(0, "writeRow", 0);
        b.does("pin", 3, 3);
        b.does("writeRow", 3);
        b.refusedLines(0, "writeRow", 0);
        b.dueLine("F F F F* F");
    }

    // ---- 46: outputAt

    @Sentence(promise = 46, says = "Returns a character of the output line, which is initially empty.")
    static void theOutputLineIsInitiallyEmpty(Bench b) {
        b.refusedNumbers(Bench.INDEX, new int[] {0, 1, 8, 9, -1, Bench.MIN, Bench.MAX}, 0, "outputAt", 0);
        // Only writeRow writes to it.
        b.does("pin", 0, 0);
        b.due(Bench.INDEX, "writeRow", 5);
        b.dueRun(1, "pin 01");
        b.refused(Bench.INDEX, "outputAt", 0);
    }

    @Sentence(promise = 46, says = "`index`: the index, from 0")
    static void theFirstCharacterHasTheIndex0(Bench b) {
        b.does("setTile", 0, 0, 7);
        b.does("setTile", 0, 4, 3);
        b.does("writeRow", 0);
        b.due('7', "outputAt", 0);
        b.due(' ', "outputAt", 1);
        b.due('F', "outputAt", 2);
        b.due('3', "outputAt", 8);
    }

    @Sentence(promise = 46, says = "Returns the character.")
    static void readingDoesNotUseTheLineUp(Bench b) {
        b.does("pin", 2, 4);
        b.does("writeRow", 2);
        b.due('*', "outputAt", 9);
        b.due('*', "outputAt", 9);
        b.due('F', "outputAt", 0);
        b.dueLine("F F F F F*");
    }

    @Sentence(promise = 46, says = NO_INDEX)
    static void outputAtNeedsAnIndexBelowTheLength(Bench b) {
        int[] wrong = {-1, 9, 10, 33, Bench.MIN, Bench.MAX};
        b.does("writeRow", 0);
        b.refusedNumbers(Bench.INDEX, wrong, 0, "outputAt", 0);
        // A longer line has more, and a shorter one after it has less again.
        b.does("pin", 0, 0);
        b.does("addLock", 0, 1, 'a');
        b.does("writeRow", 0);
        b.due('F', "outputAt", 11);
        b.refused(Bench.INDEX, "outputAt", 12);
        b.does("writeRow", 1);
        b.due('F', "outputAt", 8);
        b.refusedNumbers(Bench.INDEX, wrong, 0, "outputAt", 0);
    }

    // ---- what the tests share

    /** Each text is a program whose last command fails, and none of its commands has an effect. */
    private static void dueFailures(Bench b, String... texts) {
        String before = b.boardState();
        for (String text : texts) {
            int commands = text.split(";").length;
            b.dueFailure(commands - 1, text);
        }
        b.same(before, b.boardState(), "the state after programs that fail");
    }
}
