import java.lang.reflect.InvocationTargetException;
import java.lang.reflect.Method;
import java.util.Arrays;

/** Tests of the promises 1 to 49, each with ordinary inputs, edges and wrong inputs. */
public final class PromiseTest {
    private static final String INDEX = "throws.IndexOutOfBoundsException";
    private static final String ARGUMENT = "throws.IllegalArgumentException";
    private static final String STATE = "throws.IllegalStateException";
    private static final String UNSUPPORTED = "throws.UnsupportedOperationException";
    private static final String ELEMENT = "throws.NoSuchElementException";
    private static final int[] BAD_LINES = {-1, 5, Integer.MIN_VALUE, Integer.MAX_VALUE};
    private static final int[][] BAD_CELLS = {
        {-1, 0}, {5, 0}, {0, -1}, {0, 5}, {-1, -1}, {5, 5}, {1, -5}, {-1, 5},
        {Integer.MAX_VALUE, 0}, {Integer.MIN_VALUE, 4}, {2, Integer.MAX_VALUE}, {2, Integer.MIN_VALUE},
    };
    private static final char[] BAD_KEYS = {'`', 'g', 'A', 'F', '0', ' ', 0, 255, 353, 65535};

    private static int wrong = 0;
    private static int promise = 0;
    private static BrambleShift x = null;
    // Nothing is promised after the 512th call of an object, so no test may ask for it.
    private static final int PROMISED_CALLS = 512;
    private static BrambleShift counted = null;
    private static int calls = 0;

    private PromiseTest() {
    }

    public static void main(String[] args) {
        aNewObject();
        setTile();
        turnTile();
        pinAndUnpin();
        shiftRow();
        shiftColumn();
        shiftCarriesAll();
        placeKey();
        addLock();
        removeLock();
        addWalker();
        walk();
        walkPicksUpAtTheEndOnly();
        tileQueries();
        connections();
        regions();
        keyQueries();
        walkerQueries();
        paths();
        firstStep();
        reachableCells();
        nearestKey();
        helpfulShifts();
        totals();
        isConsistent();
        append();
        run();
        runCommands();
        errorPosition();
        failedCommand();
        writeRow();
        outputAt();
        undo();
        undoEachChange();
        saveAndRestore();
        exceptionOrder();
        System.out.println(wrong == 0 ? "all answers are as due" : wrong + " answers are wrong");
        System.exit(wrong == 0 ? 0 : 1);
    }

    // ---- the tests

    private static void aNewObject() {
        begin(1);
        for (int row = 0; row < 5; row++) {
            for (int column = 0; column < 5; column++) {
                due(15, "openings", row, column);
                due(false, "isPinned", row, column);
                due(false, "hasLock", row, column);
                due(0, "keysAt", row, column);
            }
            due(9, "writeRow", row);
            dueLine("F F F F F");
        }
        for (char key = 'a'; key <= 'f'; key++) {
            due(ELEMENT, "keyRow", key);
            due(ELEMENT, "keyColumn", key);
            due(ELEMENT, "carrierOf", key);
        }
        due(0, "walkerCount");
        due(0, "shiftCount");
        due(0L, "walkedTotal");
        due(1, "regionCount");
        due(4.0, "meanOpenings");
        due(true, "isConsistent");
        due(ELEMENT, "errorPosition");
        due(ELEMENT, "failedCommand");
        due(STATE, "undo");
        due(STATE, "restore");
    }

    private static void setTile() {
        begin(2);
        due(15, "setTile", 0, 0, 0);
        due(0, "setTile", 0, 0, 15);
        due(15, "setTile", 4, 4, 9);
        due(9, "setTile", 4, 4, 9);
        due(9, "openings", 4, 4);
        due(15, "openings", 0, 0);
        for (int bad : new int[] {-1, 16, 31, Integer.MIN_VALUE, Integer.MAX_VALUE}) {
            due(ARGUMENT, "setTile", 4, 4, bad);
        }
        dueBadCells("setTile", 3);
        due(9, "openings", 4, 4);
        due(1, "pin", 4, 4);
        due(9, "setTile", 4, 4, 3);
        due(3, "openings", 4, 4);
        due(true, "isPinned", 4, 4);
    }

    private static void turnTile() {
        begin(3);
        int[] once = {0, 2, 4, 6, 8, 10, 12, 14, 1, 3, 5, 7, 9, 11, 13, 15};
        for (int openings = 0; openings < 16; openings++) {
            int[] turned = {openings, once[openings], once[once[openings]], once[once[once[openings]]]};
            for (int turns = 1; turns <= 3; turns++) {
                call("setTile", 2, 3, openings);
                due(turned[turns], "turnTile", 2, 3, turns);
                due(turned[turns], "openings", 2, 3);
            }
        }
        for (int bad : new int[] {0, 4, -1, -3, 5, Integer.MIN_VALUE, Integer.MAX_VALUE}) {
            due(ARGUMENT, "turnTile", 2, 3, bad);
        }
        dueBadCells("turnTile", 1);
        call("setTile", 0, 0, 1);
        call("pin", 0, 0);
        due(STATE, "turnTile", 0, 0, 1);
        due(ARGUMENT, "turnTile", 0, 0, 4);
        due(1, "openings", 0, 0);
        call("unpin", 0, 0);
        due(2, "turnTile", 0, 0, 1);
    }

    private static void pinAndUnpin() {
        begin(4);
        int count = 0;
        for (int row = 0; row < 5; row++) {
            for (int column = 0; column < 5; column++) {
                count++;
                due(count, "pin", row, column);
                due(STATE, "pin", row, column);
                due(true, "isPinned", row, column);
            }
        }
        dueBadCells("pin");
        begin(5);
        due(STATE, "unpin", 0, 0);
        call("pin", 0, 0);
        call("pin", 4, 4);
        call("pin", 2, 1);
        due(2, "unpin", 4, 4);
        due(STATE, "unpin", 4, 4);
        due(1, "unpin", 0, 0);
        due(true, "isPinned", 2, 1);
        due(0, "unpin", 2, 1);
        due(false, "isPinned", 2, 1);
        dueBadCells("unpin");
    }

    private static void shiftRow() {
        begin(6);
        for (int steps = -4; steps <= 4; steps++) {
            x = new BrambleShift();
            for (int column = 0; column < 5; column++) {
                call("setTile", 1, column, column);
                call("setTile", 2, column, 10 + column);
            }
            due(steps == 0 ? (Object) ARGUMENT : (Object) 0, "shiftRow", 1, steps);
            for (int column = 0; column < 5; column++) {
                due(column, "openings", 1, (column + steps + 5) % 5);
                due(10 + column, "openings", 2, column);
            }
        }
        for (int bad : new int[] {-5, 5, 0, -6, 10, Integer.MIN_VALUE, Integer.MAX_VALUE}) {
            due(ARGUMENT, "shiftRow", 0, bad);
        }
        for (int bad : BAD_LINES) {
            due(INDEX, "shiftRow", bad, 1);
        }
        call("addWalker", 3, 0);
        call("addWalker", 3, 0);
        call("addWalker", 2, 0);
        due(2, "shiftRow", 3, 1);
        due(2, "shiftRow", 3, -1);
        due(1, "shiftRow", 2, -1);
        due(1, "shiftRow", 2, 1);
        due(0, "shiftRow", 1, -1);
        due(0, "shiftRow", 0, -1);
        call("pin", 3, 4);
        due(STATE, "shiftRow", 3, 1);
        due(1, "shiftRow", 2, 1);
        call("unpin", 3, 4);
        due(2, "shiftRow", 3, 1);
    }

    private static void shiftColumn() {
        begin(7);
        for (int steps = -4; steps <= 4; steps++) {
            x = new BrambleShift();
            for (int row = 0; row < 5; row++) {
                call("setTile", row, 4, row);
                call("setTile", row, 3, 10 + row);
            }
            due(steps == 0 ? (Object) ARGUMENT : (Object) 0, "shiftColumn", 4, steps);
            for (int row = 0; row < 5; row++) {
                due(row, "openings", (row + steps + 5) % 5, 4);
                due(10 + row, "openings", row, 3);
            }
        }
        for (int bad : new int[] {-5, 5, 0, -6, 10, Integer.MIN_VALUE, Integer.MAX_VALUE}) {
            due(ARGUMENT, "shiftColumn", 0, bad);
        }
        for (int bad : BAD_LINES) {
            due(INDEX, "shiftColumn", bad, 1);
        }
        call("addWalker", 0, 3);
        call("addWalker", 4, 3);
        call("addWalker", 2, 0);
        due(2, "shiftColumn", 3, 1);
        due(1, "shiftColumn", 0, -1);
        due(0, "shiftColumn", 4, -1);
        call("pin", 0, 3);
        due(STATE, "shiftColumn", 3, 1);
        due(1, "shiftColumn", 0, 1);
        call("unpin", 0, 3);
        due(2, "shiftColumn", 3, -4);
    }

    private static void shiftCarriesAll() {
        begin(6);
        call("addWalker", 2, 4);
        call("addWalker", 1, 4);
        call("addLock", 2, 4, 'c');
        call("placeKey", 'e', 2, 4);
        call("placeKey", 'b', 2, 4);
        call("placeKey", 'a', 3, 0);
        due(1, "shiftRow", 2, 1);
        due(0, "walkerColumn", 0);
        due(2, "walkerRow", 0);
        due(4, "walkerColumn", 1);
        due('c', "lockAt", 2, 0);
        due(false, "hasLock", 2, 4);
        due(2, "keysAt", 2, 0);
        due(0, "keysOf", 0);
        goOn(7);
        due(1, "shiftColumn", 0, -3);
        due(4, "walkerRow", 0);
        due(0, "walkerColumn", 0);
        due('c', "lockAt", 4, 0);
        due(4, "keyRow", 'e');
        due(0, "keyColumn", 'b');
        due(0, "keyRow", 'a');
        // A walker who is shifted onto the place of a key has not come to its tile.
        due(0, "keysOf", 0);
        due(2, "shiftCount");
        // A key that is carried stays with its walker.
        x = new BrambleShift();
        call("placeKey", 'd', 0, 0);
        call("addWalker", 0, 0);
        due(0, "carrierOf", 'd');
        due(1, "shiftColumn", 0, 1);
        due(0, "carrierOf", 'd');
        due(ELEMENT, "keyRow", 'd');
    }

    private static void placeKey() {
        begin(8);
        due(1, "placeKey", 'a', 0, 4);
        due(2, "placeKey", 'f', 0, 4);
        due(STATE, "placeKey", 'a', 0, 4);
        due(STATE, "placeKey", 'a', 1, 1);
        for (char bad : BAD_KEYS) {
            due(ARGUMENT, "placeKey", bad, 0, 0);
            due(ARGUMENT, "placeKey", bad, 5, 0);
        }
        for (int[] bad : BAD_CELLS) {
            due(INDEX, "placeKey", 'b', bad[0], bad[1]);
            due(INDEX, "placeKey", 'a', bad[0], bad[1]);
        }
        call("addWalker", 3, 3);
        due(1, "placeKey", 'b', 3, 3);
        due(0, "keysOf", 0);
        due(3, "keyRow", 'b');
        call("walk", 0, 3, 4);
        call("walk", 0, 3, 3);
        due(0, "carrierOf", 'b');
        due(STATE, "placeKey", 'b', 1, 1);
        due(1, "placeKey", 'c', 3, 3);
        // Keys lie on locked and pinned tiles as well.
        call("addLock", 2, 2, 'a');
        call("pin", 2, 2);
        due(1, "placeKey", 'd', 2, 2);
    }

    private static void addLock() {
        begin(9);
        due(1, "addLock", 0, 0, 'a');
        due(STATE, "addLock", 0, 0, 'a');
        due(STATE, "addLock", 0, 0, 'b');
        due(2, "addLock", 4, 4, 'a');
        for (char bad : BAD_KEYS) {
            due(ARGUMENT, "addLock", 1, 1, bad);
            due(ARGUMENT, "addLock", 0, 0, bad);
            due(INDEX, "addLock", 5, 0, bad);
        }
        for (int[] bad : BAD_CELLS) {
            due(INDEX, "addLock", bad[0], bad[1], 'a');
        }
        due('a', "lockAt", 0, 0);
        call("addWalker", 2, 2);
        due(3, "addLock", 2, 2, 'f');
        due(2, "walkerRow", 0);
        due(2, "walkerColumn", 0);
        due(1, "walk", 0, 2, 3);
        due(STATE, "walk", 0, 2, 2);
        for (int column = 0; column < 5; column++) {
            due(4 + column, "addLock", 1, column, 'd');
        }
    }

    private static void removeLock() {
        begin(10);
        due(ELEMENT, "removeLock", 0, 0);
        for (char key = 'a'; key <= 'f'; key++) {
            call("addLock", 3, 1, key);
            due(key, "removeLock", 3, 1);
            due(ELEMENT, "removeLock", 3, 1);
        }
        call("addLock", 0, 1, 'b');
        dueBadCells("removeLock");
        due(2, "addLock", 0, 0, 'a');
        due('b', "removeLock", 0, 1);
        due(2, "addLock", 0, 2, 'a');
    }

    private static void addWalker() {
        begin(11);
        dueBadCells("addWalker");
        call("addLock", 1, 0, 'a');
        due(UNSUPPORTED, "addWalker", 1, 0);
        call("placeKey", 'a', 0, 0);
        call("placeKey", 'f', 0, 0);
        due(0, "addWalker", 0, 0);
        due(2, "keysOf", 0);
        due(0, "keysAt", 0, 0);
        due(UNSUPPORTED, "addWalker", 1, 0);
        due(1, "addWalker", 0, 0);
        due(0, "keysOf", 1);
        due(2, "addWalker", 4, 4);
        due(STATE, "addWalker", 2, 2);
        due(STATE, "addWalker", 1, 0);
        due(INDEX, "addWalker", 0, 5);
        due(3, "walkerCount");
        // A pinned tile and a tile without openings can be entered this way.
        x = new BrambleShift();
        call("pin", 1, 1);
        call("setTile", 1, 1, 0);
        due(0, "addWalker", 1, 1);
    }

    private static void walk() {
        begin(12);
        due(INDEX, "walk", 0, 0, 0);
        call("addWalker", 0, 0);
        for (int[] bad : BAD_CELLS) {
            due(INDEX, "walk", 0, bad[0], bad[1]);
        }
        for (int bad : new int[] {-1, 1, 3, Integer.MIN_VALUE, Integer.MAX_VALUE}) {
            due(INDEX, "walk", bad, 1, 1);
            due(INDEX, "walk", bad, 0, 0);
        }
        due(ARGUMENT, "walk", 0, 0, 0);
        due(8, "walk", 0, 4, 4);
        due(4, "walkerRow", 0);
        due(4, "walkerColumn", 0);
        due(8L, "walkedTotal");
        due(4, "walk", 0, 4, 0);
        due(12L, "walkedTotal");
        call("setTile", 2, 2, 0);
        due(STATE, "walk", 0, 2, 2);
        due(4, "walkerRow", 0);
        due(12L, "walkedTotal");
        // A walker whose own tile has been locked is still there, and can leave.
        call("addLock", 4, 0, 'a');
        due(ARGUMENT, "walk", 0, 4, 0);
        due(1, "walk", 0, 4, 1);
        due(STATE, "walk", 0, 4, 0);
        // Cells at opposite borders are no neighbours.
        due(4, "walk", 0, 0, 1);
        due(3, "walk", 0, 0, 4);
    }

    private static void walkPicksUpAtTheEndOnly() {
        begin(12);
        leaveRow();
        call("addWalker", 0, 0);
        call("placeKey", 'a', 0, 1);
        call("placeKey", 'b', 0, 2);
        call("addLock", 0, 3, 'a');
        due(STATE, "walk", 0, 0, 3);
        due(2, "walk", 0, 0, 2);
        due(1, "keysOf", 0);
        due(0, "carrierOf", 'b');
        due(ELEMENT, "carrierOf", 'a');
        due(STATE, "walk", 0, 0, 3);
        due(1, "walk", 0, 0, 1);
        due(2, "keysOf", 0);
        due(3, "walk", 0, 0, 4);
        // A key opens for its carrier only.
        due(1, "addWalker", 0, 0);
        due(STATE, "walk", 1, 0, 4);
        due(2, "walk", 1, 0, 2);
        due(8L, "walkedTotal");
        call("placeKey", 'c', 0, 1);
        call("placeKey", 'd', 4, 4);
        due(1, "walk", 1, 0, 1);
        call("addLock", 0, 0, 'c');
        call("addLock", 0, 2, 'd');
        due(STATE, "walk", 0, 0, 0);
        due(1, "walk", 1, 0, 0);
        due(STATE, "walk", 1, 0, 2);
    }

    private static void tileQueries() {
        begin(13);
        dueBadCells("openings");
        call("setTile", 3, 1, 6);
        due(6, "openings", 3, 1);
        due(15, "openings", 1, 3);
        begin(14);
        dueBadCells("isPinned");
        call("pin", 3, 1);
        due(true, "isPinned", 3, 1);
        due(false, "isPinned", 1, 3);
        begin(15);
        call("pin", 3, 1);
        for (int line = 0; line < 5; line++) {
            due(line != 3, "canShiftRow", line);
            due(line != 1, "canShiftColumn", line);
        }
        for (int bad : BAD_LINES) {
            due(INDEX, "canShiftRow", bad);
        }
        begin(16);
        call("pin", 0, 4);
        for (int line = 0; line < 5; line++) {
            due(line != 0, "canShiftRow", line);
            due(line != 4, "canShiftColumn", line);
        }
        for (int bad : BAD_LINES) {
            due(INDEX, "canShiftColumn", bad);
        }
        // A pin at the end of a line does not hold the next one.
        x = new BrambleShift();
        call("pin", 3, 0);
        call("pin", 0, 3);
        goOn(15);
        due(true, "canShiftRow", 2);
        due(false, "canShiftRow", 3);
        due(true, "canShiftRow", 4);
        goOn(16);
        due(true, "canShiftColumn", 2);
        due(false, "canShiftColumn", 3);
        due(true, "canShiftColumn", 4);
        begin(17);
        dueBadCells("hasLock");
        call("addLock", 2, 4, 'f');
        due(true, "hasLock", 2, 4);
        due(false, "hasLock", 4, 2);
        begin(18);
        dueBadCells("lockAt");
        due(ELEMENT, "lockAt", 2, 4);
        call("addLock", 2, 4, 'f');
        due('f', "lockAt", 2, 4);
        due(ELEMENT, "lockAt", 4, 2);
        begin(19);
        dueBadCells("keysAt");
        for (char key = 'a'; key <= 'f'; key++) {
            due(key - 'a', "keysAt", 4, 0);
            call("placeKey", key, 4, 0);
        }
        due(6, "keysAt", 4, 0);
        due(0, "keysAt", 0, 4);
    }

    private static void connections() {
        begin(20);
        int[][] ways = {{-1, 0}, {0, 1}, {1, 0}, {0, -1}};
        for (int direction = 0; direction < 4; direction++) {
            int row = 2 + ways[direction][0];
            int column = 2 + ways[direction][1];
            for (int here = 0; here < 16; here++) {
                x = new BrambleShift();
                for (int there = 0; there < 16; there++) {
                    call("setTile", 2, 2, here);
                    call("setTile", row, column, there);
                    boolean want = (here >> direction) % 2 == 1
                            && (there >> ((direction + 2) % 4)) % 2 == 1;
                    due(want, "isConnected", 2, 2, direction);
                    due(want, "isConnected", row, column, (direction + 2) % 4);
                }
            }
        }
        x = new BrambleShift();
        for (int index = 0; index < 5; index++) {
            due(false, "isConnected", 0, index, 0);
            due(false, "isConnected", index, 4, 1);
            due(false, "isConnected", 4, index, 2);
            due(false, "isConnected", index, 0, 3);
        }
        for (int bad : new int[] {-1, 4, Integer.MIN_VALUE, Integer.MAX_VALUE}) {
            due(ARGUMENT, "isConnected", 0, 0, bad);
            due(INDEX, "isConnected", 0, 5, bad);
        }
        dueBadCells("isConnected", 0);
        call("addLock", 0, 1, 'a');
        due(true, "isConnected", 0, 0, 1);
    }

    private static void regions() {
        for (int number = 21; number <= 22; number++) {
            String method = number == 21 ? "regionCount" : "regionCountByMerging";
            begin(number);
            for (int row = 0; row < 5; row++) {
                for (int column = 0; column < 5; column++) {
                    call("addLock", row, column, 'a');
                }
            }
            due(1, method);
            for (int row = 0; row < 5; row++) {
                for (int column = 0; column < 5; column++) {
                    call("setTile", row, column, 10);
                }
            }
            due(5, method);
            call("setTile", 0, 2, 0);
            due(7, method);
            // A comb: one column joins all rows.
            for (int row = 0; row < 5; row++) {
                call("setTile", row, 4, 13);
            }
            due(3, method);
            for (int row = 0; row < 5; row++) {
                for (int column = 0; column < 5; column++) {
                    call("setTile", row, column, 0);
                }
            }
            due(25, method);
            call("setTile", 3, 3, 15);
            due(25, method);
            call("setTile", 3, 4, 8);
            due(24, method);
            // From 00 to 01 through row 1, and from 04 to 02 through row 2: all directions.
            call("setTile", 0, 0, 4);
            call("setTile", 1, 0, 3);
            call("setTile", 1, 1, 9);
            call("setTile", 0, 1, 4);
            due(21, method);
            call("setTile", 0, 4, 4);
            call("setTile", 1, 4, 5);
            call("setTile", 2, 4, 9);
            call("setTile", 2, 3, 10);
            call("setTile", 2, 2, 3);
            call("setTile", 1, 2, 5);
            call("setTile", 0, 2, 4);
            due(15, method);
            call("setTile", 1, 1, 11);
            call("setTile", 1, 2, 13);
            due(14, method);
        }
    }

    private static void keyQueries() {
        for (int number = 23; number <= 25; number++) {
            String method = new String[] {"keyRow", "keyColumn", "carrierOf"}[number - 23];
            begin(number);
            for (char bad : BAD_KEYS) {
                due(ARGUMENT, method, bad);
            }
            due(ELEMENT, method, 'a');
            call("placeKey", 'a', 4, 3);
            due(number == 23 ? (Object) 4 : number == 24 ? (Object) 3 : (Object) ELEMENT, method, 'a');
            due(ELEMENT, method, 'f');
            call("addWalker", 0, 0);
            call("addWalker", 4, 3);
            due(number == 25 ? (Object) 1 : (Object) ELEMENT, method, 'a');
            call("placeKey", 'f', 0, 0);
            due(number == 25 ? (Object) ELEMENT : (Object) 0, method, 'f');
        }
    }

    private static void walkerQueries() {
        begin(26);
        for (int count = 0; count < 3; count++) {
            due(count, "walkerCount");
            call("addWalker", count, 4 - count);
        }
        due(3, "walkerCount");
        goOn(27);
        for (int walker = 0; walker < 3; walker++) {
            due(walker, "walkerRow", walker);
        }
        goOn(28);
        for (int walker = 0; walker < 3; walker++) {
            due(4 - walker, "walkerColumn", walker);
        }
        for (String method : new String[] {"walkerRow", "walkerColumn", "keysOf", "reachableCells",
            "nearestKey", "reachableShare"}) {
            begin(method.equals("keysOf") ? 29 : method.equals("walkerRow") ? 27 : 28);
            due(INDEX, method, 0);
            call("addWalker", 2, 2);
            for (int bad : new int[] {-1, 1, 2, 3, Integer.MIN_VALUE, Integer.MAX_VALUE}) {
                due(INDEX, method, bad);
            }
        }
        begin(29);
        call("addWalker", 0, 0);
        for (char key = 'a'; key <= 'f'; key++) {
            call("placeKey", key, 1, 1);
        }
        call("addWalker", 0, 0);
        due(0, "keysOf", 0);
        call("walk", 1, 1, 1);
        due(6, "keysOf", 1);
        due(0, "keysOf", 0);
    }

    private static void paths() {
        for (int number = 30; number <= 31; number++) {
            String method = number == 30 ? "pathLength" : "pathLengthByRounds";
            begin(number);
            due(INDEX, method, 0, 0, 0);
            call("addWalker", 4, 0);
            for (int[] bad : BAD_CELLS) {
                due(INDEX, method, 0, bad[0], bad[1]);
            }
            for (int bad : new int[] {-1, 1, Integer.MIN_VALUE, Integer.MAX_VALUE}) {
                due(INDEX, method, bad, 0, 0);
            }
            for (int row = 0; row < 5; row++) {
                for (int column = 0; column < 5; column++) {
                    due(4 - row + column, method, 0, row, column);
                }
            }
            // The longest path winds through all rows.
            windThroughAllRows();
            due(4, method, 0, 4, 4);
            due(24, method, 0, 0, 4);
            call("setTile", 2, 2, 8);
            due(12, method, 0, 2, 2);
            due(11, method, 0, 2, 1);
            due(ELEMENT, method, 0, 2, 3);
            due(0, method, 0, 4, 0);
            call("addLock", 4, 0, 'a');
            due(0, method, 0, 4, 0);
            call("addLock", 4, 1, 'b');
            due(ELEMENT, method, 0, 4, 1);
            due(ELEMENT, method, 0, 4, 2);
            call("placeKey", 'b', 4, 0);
            due(ELEMENT, method, 0, 4, 1);
            call("addWalker", 2, 2);
            due(1, method, 1, 2, 1);
            due(ELEMENT, method, 1, 2, 3);
            due(ELEMENT, method, 1, 4, 0);
            // A second walker picks the key up and may then pass.
            x = new BrambleShift();
            leaveRow();
            call("placeKey", 'c', 0, 0);
            call("addWalker", 0, 0);
            call("addWalker", 0, 0);
            call("addLock", 0, 1, 'c');
            due(4, method, 0, 0, 4);
            due(ELEMENT, method, 1, 0, 4);
            due(0L, "walkedTotal");
        }
    }

    private static void firstStep() {
        begin(32);
        due(INDEX, "firstStep", 0, 0, 0);
        call("addWalker", 2, 2);
        for (int[] bad : BAD_CELLS) {
            due(INDEX, "firstStep", 0, bad[0], bad[1]);
        }
        due(INDEX, "firstStep", 1, 0, 0);
        due(INDEX, "firstStep", -1, 0, 0);
        due(ELEMENT, "firstStep", 0, 2, 2);
        due(0, "firstStep", 0, 0, 0);
        due(0, "firstStep", 0, 0, 4);
        due(1, "firstStep", 0, 4, 4);
        due(1, "firstStep", 0, 2, 4);
        due(2, "firstStep", 0, 4, 0);
        due(2, "firstStep", 0, 3, 2);
        due(3, "firstStep", 0, 2, 0);
        call("setTile", 1, 2, 0);
        due(1, "firstStep", 0, 0, 4);
        due(3, "firstStep", 0, 0, 0);
        due(1, "firstStep", 0, 0, 2);
        due(ELEMENT, "firstStep", 0, 1, 2);
        call("addLock", 2, 3, 'a');
        due(2, "firstStep", 0, 2, 4);
        due(3, "firstStep", 0, 0, 2);
        // The lowest first direction counts, not the order in which later steps are tried.
        x = new BrambleShift();
        call("addWalker", 4, 4);
        due(0, "firstStep", 0, 0, 0);
        call("setTile", 0, 0, 2);
        call("setTile", 3, 4, 15 - 8);
        due(0, "firstStep", 0, 0, 0);
        call("setTile", 0, 0, 4);
        due(0, "firstStep", 0, 0, 0);
        call("setTile", 1, 4, 0);
        call("setTile", 2, 4, 5);
        due(3, "firstStep", 0, 0, 0);
    }

    private static void reachableCells() {
        begin(33);
        call("addWalker", 2, 2);
        due(25, "reachableCells", 0);
        goOn(39);
        due(1.0f, "reachableShare", 0);
        call("addLock", 0, 1, 'a');
        call("addLock", 1, 0, 'a');
        due(22.0f / 25.0f, "reachableShare", 0);
        goOn(33);
        due(22, "reachableCells", 0);
        call("setTile", 2, 2, 0);
        due(1, "reachableCells", 0);
        call("addLock", 2, 2, 'a');
        due(1, "reachableCells", 0);
        goOn(39);
        due(1.0f / 25.0f, "reachableShare", 0);
    }

    private static void nearestKey() {
        begin(34);
        call("addWalker", 0, 0);
        due(ELEMENT, "nearestKey", 0);
        call("placeKey", 'a', 4, 4);
        due('a', "nearestKey", 0);
        call("placeKey", 'f', 0, 3);
        due('f', "nearestKey", 0);
        call("placeKey", 'd', 2, 1);
        due('d', "nearestKey", 0);
        call("placeKey", 'e', 1, 2);
        due('d', "nearestKey", 0);
        call("addLock", 2, 1, 'a');
        due('e', "nearestKey", 0);
        call("placeKey", 'c', 0, 0);
        due('c', "nearestKey", 0);
        call("placeKey", 'b', 0, 1);
        due('c', "nearestKey", 0);
        call("setTile", 0, 0, 0);
        due('c', "nearestKey", 0);
        call("addWalker", 1, 2);
        due('b', "nearestKey", 1);
        call("setTile", 1, 2, 0);
        due(ELEMENT, "nearestKey", 1);
        due(1, "carrierOf", 'e');
    }

    private static void helpfulShifts() {
        begin(35);
        due(INDEX, "helpfulShifts", 0, 0, 0);
        call("addWalker", 0, 0);
        for (int[] bad : BAD_CELLS) {
            due(INDEX, "helpfulShifts", 0, bad[0], bad[1]);
        }
        due(INDEX, "helpfulShifts", 1, 0, 0);
        due(INDEX, "helpfulShifts", -1, 0, 0);
        due(20, "helpfulShifts", 0, 4, 4);
        due(20, "helpfulShifts", 0, 0, 0);
        call("pin", 4, 4);
        due(16, "helpfulShifts", 0, 4, 4);
        call("pin", 0, 0);
        due(12, "helpfulShifts", 0, 4, 4);
        for (int index = 1; index < 4; index++) {
            call("pin", index, index);
        }
        due(0, "helpfulShifts", 0, 4, 4);
        due(0, "helpfulShifts", 0, 0, 0);
        // Without openings the walker can only be carried to the cell.
        x = new BrambleShift();
        for (int row = 0; row < 5; row++) {
            for (int column = 0; column < 5; column++) {
                call("setTile", row, column, 0);
            }
        }
        call("addWalker", 0, 0);
        due(16, "helpfulShifts", 0, 0, 0);
        due(1, "helpfulShifts", 0, 0, 1);
        due(1, "helpfulShifts", 0, 0, 4);
        due(1, "helpfulShifts", 0, 1, 0);
        due(1, "helpfulShifts", 0, 4, 0);
        due(0, "helpfulShifts", 0, 1, 1);
        due(0, "helpfulShifts", 0, 0, 2);
        call("addLock", 0, 4, 'a');
        due(1, "helpfulShifts", 0, 0, 4);
        due(0, "shiftCount");
        due(0, "walkerColumn", 0);
        // The lock is carried away by four shifts: its row and its column, each in both ways.
        x = new BrambleShift();
        call("addWalker", 0, 0);
        call("addLock", 2, 2, 'a');
        due(4, "helpfulShifts", 0, 2, 2);
    }

    private static void totals() {
        begin(36);
        due(0, "shiftCount");
        call("shiftRow", 0, 1);
        call("shiftColumn", 0, -1);
        call("shiftRow", 0, 0);
        call("shiftRow", 5, 1);
        due(2, "shiftCount");
        text("row 0+1;column 2-4");
        due(2, "run");
        due(4, "shiftCount");
        text("row 0+1;pin 00;row 0+1");
        due(UNSUPPORTED, "run");
        due(4, "shiftCount");
        due(2, "undo");
        due(2, "shiftCount");
        due(1, "undo");
        due(1, "shiftCount");
        due(0, "undo");
        due(0, "shiftCount");
        due(STATE, "undo");
        begin(37);
        call("addWalker", 0, 0);
        call("walk", 0, 4, 4);
        call("walk", 0, 4, 3);
        call("walk", 0, 4, 3);
        due(9L, "walkedTotal");
        call("undo");
        due(8L, "walkedTotal");
        // The undo brought the walker back to 44, so the second walk fails.
        dueRun(UNSUPPORTED, "walk 0 00;walk 0 00");
        due(8L, "walkedTotal");
        dueRun(2, "walk 0 00;walk 0 04");
        due(20L, "walkedTotal");
        begin(38);
        due(4.0, "meanOpenings");
        call("setTile", 0, 0, 14);
        due(99.0 / 25.0, "meanOpenings");
        call("setTile", 4, 4, 8);
        call("setTile", 2, 2, 0);
        due(92.0 / 25.0, "meanOpenings");
        for (int row = 0; row < 5; row++) {
            for (int column = 0; column < 5; column++) {
                call("setTile", row, column, 0);
            }
        }
        due(0.0, "meanOpenings");
        call("setTile", 1, 3, 4);
        due(1.0 / 25.0, "meanOpenings");
    }

    private static void isConsistent() {
        begin(40);
        due(true, "isConsistent");
        call("addWalker", 0, 0);
        call("addWalker", 2, 2);
        call("addWalker", 4, 4);
        windThroughAllRows();
        call("addLock", 1, 3, 'a');
        call("placeKey", 'a', 3, 3);
        call("placeKey", 'b', 2, 2);
        due(true, "isConsistent");
        call("walk", 1, 3, 3);
        call("shiftColumn", 3, 2);
        due(true, "isConsistent");
        call("undo");
        due(true, "isConsistent");
    }

    private static void append() {
        begin(41);
        for (int count = 1; count <= 60; count++) {
            due(count, "append", (char) (count * 1091));
        }
        due(STATE, "append", 'a');
        due(STATE, "append", 'p');
        due(ARGUMENT, "run");
        due(0, "errorPosition");
        due(1, "append", (char) 65535);
        // A refused character is not in the buffer.
        x = new BrambleShift();
        text("pin 00;pin 01;pin 02;pin 03;pin 04;pin 10;pin 11;column 0+1");
        due(60, "append", ';');
        due(STATE, "append", 'x');
        due(ARGUMENT, "run");
        due(60, "errorPosition");
    }

    private static void run() {
        begin(42);
        text("pin 00;pin 01;pin 02;pin 03;pin 04;pin 10;pin 11;pin 12");
        due(8, "run");
        due(9, "pin", 4, 4);
        due(ELEMENT, "errorPosition");
        due(ELEMENT, "failedCommand");
        due(1, "append", 'p');
        due(ARGUMENT, "run");
        due(1, "append", 'p');
        text("in 33;unpin 33");
        due(2, "run");
        due(1, "append", 'p');
        text("in 20;pin 00");
        due(UNSUPPORTED, "run");
        due(false, "isPinned", 2, 0);
        due(ARGUMENT, "run");
        due(0, "errorPosition");
        // Sixty characters are a program too.
        x = new BrambleShift();
        text("tile 00 0;tile 01 1;tile 02 2;tile 03 3;tile 04 4;tile 10 15");
        due(6, "run");
        due(4, "openings", 0, 4);
        due(15, "openings", 1, 0);
        dueRun(7, "pin 00;pin 01;pin 02;tile 20 0;tile 21 1;tile 22 2;tile 23 5");
        due(5, "openings", 2, 3);
        // A command that fails undoes those before it, walks and keys included.
        x = new BrambleShift();
        call("addWalker", 0, 0);
        text("key a 01;walk 0 01;lock 44 a;row 0+1;open 44;open 44");
        due(UNSUPPORTED, "run");
        due(5, "failedCommand");
        due(ELEMENT, "carrierOf", 'a');
        due(ELEMENT, "keyRow", 'a');
        due(0, "walkerColumn", 0);
        due(0L, "walkedTotal");
        due(0, "shiftCount");
        due(0, "undo");
        due(STATE, "undo");
    }

    private static void runCommands() {
        begin(42);
        dueRun(1, "tile 23 7");
        due(7, "openings", 2, 3);
        dueRun(1, "tile 23 07");
        due(7, "openings", 2, 3);
        dueRun(1, "tile 23 12");
        due(12, "openings", 2, 3);
        // What stood in the buffer before is not read again.
        dueRun(1, "tile 23 1");
        due(1, "openings", 2, 3);
        dueRun(1, "tile 23 12");
        dueRun(1, "turn 23 1");
        due(9, "openings", 2, 3);
        dueRun(1, "pin 23");
        due(true, "isPinned", 2, 3);
        dueRun(1, "unpin 23");
        due(false, "isPinned", 2, 3);
        dueRun(1, "row 2-3");
        due(9, "openings", 2, 0);
        dueRun(1, "column 0+4");
        due(9, "openings", 1, 0);
        dueRun(1, "key f 10");
        due(1, "keyRow", 'f');
        due(0, "keyColumn", 'f');
        dueRun(1, "lock 34 e");
        due('e', "lockAt", 3, 4);
        dueRun(1, "open 34");
        due(false, "hasLock", 3, 4);
        dueRun(2, "enter 44;enter 03");
        due(0, "walkerRow", 1);
        due(3, "walkerColumn", 1);
        dueRun(1, "walk 1 04");
        due(4, "walkerColumn", 1);
        due(4, "walkerRow", 0);
        String[] failing = {"tile 50 0", "tile 05 0", "tile 00 16", "tile 00 99", "turn 00 0", "turn 00 4",
            "turn 90 1", "pin 55", "unpin 00", "row 5+1", "row 0+0", "row 0-5", "column 9-1",
            "column 0+9", "column 0-0", "key f 00", "key a 50", "lock 05 a", "open 00", "enter 05",
            "walk 2 00", "walk 1 50", "walk 1 04"};
        for (String failingText : failing) {
            begin(42);
            call("placeKey", 'f', 1, 0);
            call("addWalker", 4, 4);
            call("addWalker", 0, 4);
            dueRun(UNSUPPORTED, failingText);
            due(0, "failedCommand");
            dueRun(UNSUPPORTED, "pin 22;" + failingText);
            due(1, "failedCommand");
            due(false, "isPinned", 2, 2);
            due(ELEMENT, "errorPosition");
        }
    }

    private static void errorPosition() {
        begin(43);
        due(ELEMENT, "errorPosition");
        String[] commands = {"tile 12 7", "turn 12 1", "pin 12", "unpin 12", "row 1+2", "column 1-2",
            "key a 12", "lock 12 f", "open 12", "enter 12", "walk 0 12"};
        for (String before : new String[] {"", "pin 00;", "tile 00 15;row 0-1;"}) {
            for (String command : commands) {
                // Every proper prefix ends with an error at its end, every strange character at its place.
                for (int end = 0; end < command.length(); end++) {
                    x = new BrambleShift();
                    dueError(before.length() + end, before + command.substring(0, end));
                    dueError(before.length() + end, before + command.substring(0, end) + "!");
                    dueError(before.length() + end,
                            before + command.substring(0, end) + "!" + command.substring(end + 1));
                }
                x = new BrambleShift();
                int length = before.length() + command.length();
                dueError(length, before + command + " ");
                dueError(length + 1, before + command + ";");
                dueError(length + 1, before + command + ";;");
                dueError(length + 1, before + command + "; ");
            }
        }
        x = new BrambleShift();
        dueError(9, "tile 00 1x");
        dueError(10, "tile 00 155");
        dueError(8, "tile 00  1");
        dueError(8, "tile 00 -1");
        dueError(9, "turn 00 11");
        dueError(6, "pin 000");
        dueError(7, "row 0+10");
        dueError(5, "row 0*1");
        dueError(4, "key g 00");
        dueError(4, "key A 00");
        dueError(8, "lock 00 g");
        dueError(1, "tXle");
        dueError(2, "tirn");
        dueError(2, "tule");
        dueError(0, " pin 00");
        dueError(0, "PIN 00");
        dueError(0, ";pin 00");
        dueError(0, "Dile");
        dueError(5, "tile DD N");
        dueError(4, "row DSD");
        dueError(4, "key L 00");
        dueError(4, "pin " + (char) 0x0661 + "0");
        dueError(4, "row " + (char) 0xFF10);
        // A syntax error is found before any command is carried out.
        dueError(8, "unpin 00x");
        due(ELEMENT, "failedCommand");
        // The position stays stored whatever runs later.
        dueRun(1, "pin 00");
        due(8, "errorPosition");
        dueRun(UNSUPPORTED, "pin 00");
        due(8, "errorPosition");
        call("save");
        call("restore");
        due(8, "errorPosition");
    }

    private static void failedCommand() {
        begin(44);
        due(ELEMENT, "failedCommand");
        dueRun(UNSUPPORTED, "pin 00;pin 01;pin 00");
        due(2, "failedCommand");
        dueRun(2, "pin 00;pin 01");
        due(2, "failedCommand");
        dueRun(ARGUMENT, "pin");
        due(2, "failedCommand");
        call("undo");
        due(2, "failedCommand");
        dueRun(UNSUPPORTED, "unpin 00");
        due(0, "failedCommand");
        dueRun(UNSUPPORTED, "pin 00;pin 01;pin 02;pin 03;pin 04;pin 10;pin 11;pin 11");
        due(7, "failedCommand");
    }

    private static void writeRow() {
        begin(45);
        for (int bad : BAD_LINES) {
            due(INDEX, "writeRow", bad);
        }
        call("pin", 0, 0);
        call("setTile", 0, 1, 3);
        call("addLock", 0, 1, 'a');
        call("setTile", 0, 2, 5);
        call("addWalker", 0, 2);
        call("placeKey", 'd', 0, 3);
        call("placeKey", 'b', 0, 3);
        call("setTile", 0, 4, 0);
        due(15, "writeRow", 0);
        dueLine("F* 3#a 5@ Fbd 0");
    }

    private static void outputAt() {
        begin(46);
        for (int bad : new int[] {-1, 0, 1, Integer.MIN_VALUE, Integer.MAX_VALUE}) {
            due(INDEX, "outputAt", bad);
        }
        for (int openings = 0; openings < 5; openings++) {
            call("setTile", 1, openings, openings + 5);
            call("setTile", 2, openings, openings + 10);
        }
        due(9, "writeRow", 1);
        dueLine("5 6 7 8 9");
        due(9, "writeRow", 2);
        dueLine("A B C D E");
        // The longest line.
        for (int column = 0; column < 5; column++) {
            call("pin", 3, column);
        }
        for (int column = 0; column < 3; column++) {
            call("addWalker", 3, column);
        }
        for (int column = 0; column < 5; column++) {
            call("addLock", 3, column, 'f');
        }
        for (char key = 'f'; key >= 'a'; key--) {
            call("placeKey", key, 3, 0);
        }
        due(33, "writeRow", 3);
        dueLine("F*#f@abcdef F*#f@ F*#f@ F*#f F*#f");
        due(INDEX, "writeRow", 5);
        due('F', "outputAt", 0);
        due(INDEX, "outputAt", 33);
        due(INDEX, "outputAt", -1);
        // A shorter line replaces a longer one whole, and the board does not change what was written.
        due(9, "writeRow", 1);
        call("setTile", 1, 0, 0);
        call("undo");
        dueLine("5 6 7 8 9");
        // Two walkers are one sign.
        x = new BrambleShift();
        call("addWalker", 4, 4);
        call("addWalker", 4, 4);
        due(10, "writeRow", 4);
        dueLine("F F F F F@");
    }

    private static void undo() {
        begin(47);
        due(STATE, "undo");
        for (int count = 0; count < 11; count++) {
            call("setTile", 0, 0, count);
        }
        for (int left = 7; left >= 0; left--) {
            due(left, "undo");
            due(2 + left, "openings", 0, 0);
        }
        due(STATE, "undo");
        due(2, "openings", 0, 0);
        // A change that changes nothing can be undone, a call that fails cannot.
        call("setTile", 1, 1, 15);
        call("setTile", 1, 1, 16);
        call("pin", 1, 5);
        call("openings", 1, 1);
        call("save");
        call("append", 'x');
        call("run");
        call("writeRow", 1);
        due(0, "undo");
        due(STATE, "undo");
        // A change after an undo takes the place of the undone one.
        call("pin", 0, 0);
        call("pin", 1, 1);
        due(1, "undo");
        call("pin", 2, 2);
        due(1, "undo");
        due(false, "isPinned", 2, 2);
        due(true, "isPinned", 0, 0);
        due(0, "undo");
        due(false, "isPinned", 0, 0);
        // A program is undone as one call.
        x = new BrambleShift();
        call("pin", 4, 4);
        dueRun(3, "pin 00;pin 01;row 1+1");
        due(1, "shiftCount");
        due(1, "undo");
        due(0, "shiftCount");
        due(false, "isPinned", 0, 1);
        due(true, "isPinned", 4, 4);
        due(0, "undo");
        // The text buffer is left as it is.
        call("pin", 4, 4);
        text("pin 00");
        due(0, "undo");
        due(1, "run");
    }

    private static void undoEachChange() {
        Object[][] changes = {
            {"setTile", 0, 0, 3}, {"turnTile", 0, 1, 1}, {"pin", 0, 0}, {"unpin", 4, 4},
            {"shiftRow", 0, 2}, {"shiftColumn", 2, -1}, {"placeKey", 'c', 0, 0}, {"addLock", 0, 0, 'e'},
            {"removeLock", 3, 3}, {"addWalker", 2, 2}, {"walk", 0, 2, 2},
        };
        for (Object[] change : changes) {
            begin(47);
            call("setTile", 0, 1, 6);
            call("placeKey", 'a', 2, 2);
            call("addLock", 3, 3, 'b');
            call("addWalker", 1, 1);
            call("pin", 4, 4);
            call("turnTile", 0, 1, 1);
            String state = picture();
            String name = (String) change[0];
            Object answer = call(name, Arrays.copyOfRange(change, 1, change.length));
            check(!answer.toString().startsWith("throws"), name + " must succeed, but " + answer);
            check(!picture().equals(state), name + " must change something");
            call("undo");
            check(picture().equals(state), name + " must be undone whole:\n" + state + picture());
        }
    }

    private static void saveAndRestore() {
        begin(49);
        due(STATE, "restore");
        call("pin", 0, 0);
        due(STATE, "restore");
        due(0, "undo");
        begin(48);
        call("setTile", 0, 0, 1);
        call("addWalker", 1, 1);
        call("placeKey", 'a', 1, 2);
        due("nothing", "save");
        String state = picture();
        due(2, "undo");
        call("undo");
        call("undo");
        goOn(49);
        due("nothing", "restore");
        check(picture().equals(state), "restore must bring the saved state");
        due(STATE, "undo");
        call("walk", 0, 1, 2);
        call("shiftRow", 1, 1);
        call("addLock", 1, 1, 'd');
        due("nothing", "restore");
        check(picture().equals(state), "the state must stay saved");
        due(STATE, "undo");
        call("pin", 3, 3);
        due(0, "undo");
        check(picture().equals(state), "undo after restore");
        goOn(48);
        call("pin", 2, 2);
        call("save");
        call("unpin", 2, 2);
        call("restore");
        due(true, "isPinned", 2, 2);
        // Undo does not touch what is saved.
        call("pin", 0, 4);
        call("save");
        call("undo");
        due(false, "isPinned", 0, 4);
        call("restore");
        due(true, "isPinned", 0, 4);
        // The output line and the text buffer are not part of the state.
        call("writeRow", 0);
        text("pin 40");
        call("restore");
        dueLine("1 F F F F*");
        due(1, "run");
    }

    /** If several conditions apply, the exception that is listed first is thrown. */
    private static void exceptionOrder() {
        begin(2);
        due(INDEX, "setTile", 5, 0, 16);
        due(INDEX, "turnTile", 0, 5, 0);
        call("pin", 0, 0);
        due(ARGUMENT, "turnTile", 0, 0, 0);
        due(INDEX, "shiftRow", 5, 0);
        due(ARGUMENT, "shiftRow", 0, 0);
        due(INDEX, "shiftColumn", 5, 0);
        due(ARGUMENT, "shiftColumn", 0, 5);
        call("placeKey", 'a', 0, 0);
        due(ARGUMENT, "placeKey", 'g', 5, 5);
        due(INDEX, "placeKey", 'a', 5, 5);
        call("addLock", 0, 0, 'a');
        due(INDEX, "addLock", 5, 5, 'g');
        due(ARGUMENT, "addLock", 0, 0, 'g');
        for (int walker = 0; walker < 3; walker++) {
            call("addWalker", 1, 1);
        }
        due(INDEX, "addWalker", 5, 0);
        due(STATE, "addWalker", 0, 0);
        call("setTile", 1, 1, 0);
        due(ARGUMENT, "walk", 0, 1, 1);
        due(STATE, "walk", 0, 1, 2);
    }

    // ---- what the tests share

    /** Leaves a board whose row 0 is cut off from the others. */
    private static void leaveRow() {
        for (int column = 0; column < 5; column++) {
            call("setTile", 0, column, 10);
        }
    }

    /** Makes one path of all cells from 40 to 44, 34 to 30 and so on to 04. */
    private static void windThroughAllRows() {
        for (int row = 0; row < 5; row++) {
            for (int column = 0; column < 5; column++) {
                call("setTile", row, column, 10);
            }
        }
        call("setTile", 4, 4, 9);
        call("setTile", 3, 4, 12);
        call("setTile", 3, 0, 3);
        call("setTile", 2, 0, 6);
        call("setTile", 2, 4, 9);
        call("setTile", 1, 4, 12);
        call("setTile", 1, 0, 3);
        call("setTile", 0, 0, 6);
    }

    private static String picture() {
        StringBuilder picture = new StringBuilder();
        for (int row = 0; row < 5; row++) {
            int length = (Integer) call("writeRow", row);
            for (int index = 0; index < length; index++) {
                picture.append(call("outputAt", index));
            }
            picture.append('\n');
        }
        int walkers = (Integer) call("walkerCount");
        for (int walker = 0; walker < walkers; walker++) {
            picture.append(call("walkerRow", walker)).append(call("walkerColumn", walker)).append(' ');
        }
        for (char key = 'a'; key <= 'f'; key++) {
            picture.append(key).append(call("carrierOf", key)).append(call("keyRow", key)).append(' ');
        }
        return picture.append(call("shiftCount")).append(' ').append(call("walkedTotal")).append('\n').toString();
    }

    private static void begin(int number) {
        x = new BrambleShift();
        promise = number;
    }

    /** Goes on with the same object for another promise. */
    private static void goOn(int number) {
        promise = number;
    }

    private static void text(String text) {
        for (int index = 0; index < text.length(); index++) {
            call("append", text.charAt(index));
        }
    }

    private static void dueRun(Object want, String text) {
        text(text);
        due(want, "run");
    }

    private static void dueError(int position, String text) {
        if (text.length() <= 60) {
            text(text);
            check(call("run").equals(ARGUMENT), "not a program: " + text);
            check(call("errorPosition").equals(position),
                    "error position of \"" + text + "\": " + call("errorPosition") + ", due is " + position);
        }
    }

    private static void dueLine(String line) {
        StringBuilder got = new StringBuilder();
        int index = 0;
        for (Object character = call("outputAt", 0); character instanceof Character && index < 100;
                character = call("outputAt", index)) {
            got.append(character);
            index++;
        }
        check(got.toString().equals(line), "the line is \"" + got + "\", due is \"" + line + "\"");
    }

    private static void dueBadCells(String method, int... more) {
        for (int[] bad : BAD_CELLS) {
            if (more.length == 0) {
                due(INDEX, method, bad[0], bad[1]);
            } else {
                due(INDEX, method, bad[0], bad[1], more[0]);
            }
        }
    }

    private static void due(Object want, String method, Object... arguments) {
        Object got = call(method, arguments);
        check(want.equals(got), method + Arrays.toString(arguments) + " answered " + got + ", due is " + want);
    }

    private static void check(boolean right, String message) {
        if (!right) {
            wrong++;
            System.out.println("promise " + promise + ": " + message);
        }
    }

    private static void count() {
        calls = x == counted ? calls + 1 : 1;
        counted = x;
        if (calls > PROMISED_CALLS) {
            throw new AssertionError("promise " + promise + ": a call after the 512th");
        }
    }

    private static Object call(String name, Object... arguments) {
        count();
        for (Method method : BrambleShift.class.getMethods()) {
            if (method.getName().equals(name)) {
                try {
                    Object answer = method.invoke(x, arguments);
                    return answer == null ? "nothing" : answer;
                } catch (InvocationTargetException e) {
                    return "throws." + e.getCause().getClass().getSimpleName();
                } catch (IllegalAccessException e) {
                    throw new AssertionError(e);
                }
            }
        }
        throw new AssertionError("no method " + name);
    }
}
