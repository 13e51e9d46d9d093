import java.lang.reflect.InvocationTargetException;
import java.lang.reflect.Method;
import java.util.ArrayDeque;
import java.util.ArrayList;
import java.util.Arrays;
import java.util.Deque;
import java.util.HashMap;
import java.util.List;
import java.util.Map;
import java.util.NoSuchElementException;
import java.util.Random;
import java.util.TreeSet;
import java.util.regex.Matcher;
import java.util.regex.Pattern;

/**
 * Makes long runs of calls, the same in every test run, on the class and on a second model of the
 * document that is written in another way, and compares all answers.
 */
public final class ModelTest {
    private static final int RUNS = 400;
    private static final int CALLS = 512;
    private static final Map<String, Method> REAL = methodsOf(BrambleShift.class);
    private static final Map<String, Method> MODEL = methodsOf(Model.class);
    private static final Map<String, Integer> SUCCESSES = new HashMap<>();
    private static final String[] CHANGES = {"setTile", "turnTile", "pin", "unpin", "shiftRow", "shiftColumn",
        "placeKey", "addLock", "removeLock", "addWalker", "walk", "walk", "walk", "walk"};
    private static final String[] QUERIES = {"openings", "isPinned", "canShiftRow", "canShiftColumn", "hasLock",
        "lockAt", "keysAt", "isConnected", "regionCount", "regionCountByMerging", "keyRow", "keyColumn",
        "carrierOf", "walkerCount", "walkerRow", "walkerColumn", "keysOf", "pathLength", "pathLengthByRounds",
        "firstStep", "reachableCells", "nearestKey", "helpfulShifts", "shiftCount", "walkedTotal",
        "meanOpenings", "reachableShare", "isConsistent", "errorPosition", "failedCommand", "writeRow",
        "outputAt"};

    private ModelTest() {
    }

    public static void main(String[] args) {
        int wrong = 0;
        for (int run = 0; run < RUNS && wrong < 5; run++) {
            wrong += oneRun(run) ? 0 : 1;
        }
        for (String method : REAL.keySet()) {
            if (SUCCESSES.getOrDefault(method, 0) < 20) {
                System.out.println(method + " succeeded too seldom to be tested");
                wrong++;
            }
        }
        System.out.println(wrong == 0 ? "all answers agree" : wrong + " runs are wrong");
        System.exit(wrong == 0 ? 0 : 1);
    }

    private static boolean oneRun(int run) {
        Random random = new Random(run);
        BrambleShift real = new BrambleShift();
        Model model = new Model();
        List<String> told = new ArrayList<>();
        Deque<Character> typing = new ArrayDeque<>();
        // Some boards lose most openings, others stay open and see more walks and locks.
        boolean sparse = run % 3 == 0;
        // Some runs stay in a corner, where walkers meet keys and locks more often.
        int span = run % 2 == 0 ? 2 : 5;
        for (int count = 0; count < CALLS; count++) {
            String name = typing.isEmpty() ? chooseMethod(random) : "append";
            Object[] arguments = chooseArguments(random, name, sparse, span);
            if (!typing.isEmpty()) {
                arguments[0] = typing.poll();
                if (typing.isEmpty() && random.nextInt(4) > 0) {
                    name = "run";
                    arguments = new Object[0];
                }
            } else if (name.equals("append")) {
                programText(random).chars().forEach(character -> typing.add((char) character));
                // This one is not typed: it stands for the end of the text.
                typing.add(';');
            }
            Object got = answer(REAL, real, name, arguments);
            Object want = answer(MODEL, model, name, arguments);
            told.add(name + Arrays.toString(arguments) + " -> " + got);
            if (!got.toString().startsWith("throws.")) {
                SUCCESSES.merge(name, 1, Integer::sum);
            }
            if (!got.equals(want)) {
                System.out.println("run " + run + ", call " + count + ": due is " + want + " at the end of");
                System.out.println(String.join("\n", told));
                return false;
            }
        }
        return true;
    }

    private static String chooseMethod(Random random) {
        int kind = random.nextInt(100);
        if (kind < 50) {
            return CHANGES[random.nextInt(CHANGES.length)];
        }
        if (kind < 94) {
            return QUERIES[random.nextInt(QUERIES.length)];
        }
        if (kind < 97) {
            return "undo";
        }
        if (kind < 98) {
            return random.nextInt(3) > 0 ? "save" : "restore";
        }
        return random.nextInt(4) > 0 ? "append" : "run";
    }

    private static Object[] chooseArguments(Random random, String name, boolean sparse, int span) {
        Method method = REAL.get(name);
        Class<?>[] types = method.getParameterTypes();
        Object[] arguments = new Object[types.length];
        for (int index = 0; index < types.length; index++) {
            if (types[index] == char.class) {
                arguments[index] = name.equals("append") ? 'p' : letter(random);
            } else {
                arguments[index] = odd(random) ? random.nextInt() : random.nextInt(odd(random) ? 5 : span);
            }
        }
        int last = types.length - 1;
        switch (name) {
            case "setTile":
                arguments[last] = odd(random) ? 16 : sparse ? random.nextInt(16) & random.nextInt(16)
                        : random.nextInt(16) | random.nextInt(16);
                break;
            case "turnTile":
                arguments[last] = random.nextInt(5);
                break;
            case "shiftRow":
            case "shiftColumn":
                arguments[last] = random.nextInt(11) - 5;
                break;
            case "outputAt":
                arguments[0] = random.nextInt(14) - 1;
                break;
            case "walk":
            case "walkerRow":
            case "walkerColumn":
            case "keysOf":
            case "pathLength":
            case "pathLengthByRounds":
            case "firstStep":
            case "reachableCells":
            case "nearestKey":
            case "helpfulShifts":
            case "reachableShare":
                arguments[0] = odd(random) ? random.nextInt(8) - 4 : random.nextInt(3);
                break;
            default:
                break;
        }
        return arguments;
    }

    private static boolean odd(Random random) {
        return random.nextInt(25) == 0;
    }

    private static char letter(Random random) {
        return odd(random) ? (char) random.nextInt(65536) : (char) ('a' + random.nextInt(odd(random) ? 8 : 6));
    }

    /** A text that is often a program; the first character has been appended as 'p' before it. */
    private static String programText(Random random) {
        StringBuilder text = new StringBuilder("in " + cell(random));
        for (int more = random.nextInt(5); more > 0; more--) {
            text.append(';').append(command(random));
        }
        if (random.nextInt(3) == 0) {
            int at = random.nextInt(text.length());
            switch (random.nextInt(4)) {
                case 0:
                    text.deleteCharAt(at);
                    break;
                case 1:
                    text.insert(at, (char) (32 + random.nextInt(96)));
                    break;
                case 2:
                    text.setCharAt(at, "0123456789;+- abcdefgilnoprtuwk".charAt(random.nextInt(31)));
                    break;
                default:
                    text.setLength(at);
                    break;
            }
        }
        return text.toString();
    }

    private static String command(Random random) {
        switch (random.nextInt(11)) {
            case 0:
                return "tile " + cell(random) + " " + random.nextInt(odd(random) ? 100 : 16);
            case 1:
                return "turn " + cell(random) + " " + (1 + random.nextInt(odd(random) ? 9 : 3));
            case 2:
                return "pin " + cell(random);
            case 3:
                return "unpin " + cell(random);
            case 4:
                return "row " + random.nextInt(5) + sign(random) + (1 + random.nextInt(odd(random) ? 9 : 4));
            case 5:
                return "column " + random.nextInt(5) + sign(random) + (1 + random.nextInt(4));
            case 6:
                return "key " + (char) ('a' + random.nextInt(6)) + " " + cell(random);
            case 7:
                return "lock " + cell(random) + " " + (char) ('a' + random.nextInt(6));
            case 8:
                return "open " + cell(random);
            case 9:
                return "enter " + cell(random);
            default:
                return "walk " + random.nextInt(3) + " " + cell(random);
        }
    }

    private static String cell(Random random) {
        int bound = odd(random) ? 10 : 5;
        return "" + random.nextInt(bound) + random.nextInt(bound);
    }

    private static char sign(Random random) {
        return random.nextBoolean() ? '+' : '-';
    }

    private static Map<String, Method> methodsOf(Class<?> type) {
        Map<String, Method> methods = new HashMap<>();
        for (Method method : type.getDeclaredMethods()) {
            if (java.lang.reflect.Modifier.isPublic(method.getModifiers())) {
                methods.put(method.getName(), method);
            }
        }
        return methods;
    }

    private static Object answer(Map<String, Method> methods, Object target, String name, Object[] arguments) {
        try {
            Object answer = methods.get(name).invoke(target, arguments);
            return answer == null ? "nothing" : answer;
        } catch (InvocationTargetException e) {
            return "throws." + e.getCause().getClass().getSimpleName();
        } catch (IllegalAccessException e) {
            throw new AssertionError(e);
        }
    }

    // ---- the second model: tiles are things that move, and carry what lies and stands on them

    private static final class Tile {
        TreeSet<Integer> open = new TreeSet<>(List.of(0, 1, 2, 3));
        boolean pinned = false;
        Character lock = null;
        TreeSet<Character> keys = new TreeSet<>();
        TreeSet<Integer> standing = new TreeSet<>();

        Tile copy() {
            Tile copy = new Tile();
            copy.open = new TreeSet<>(open);
            copy.pinned = pinned;
            copy.lock = lock;
            copy.keys = new TreeSet<>(keys);
            copy.standing = new TreeSet<>(standing);
            return copy;
        }

        int number() {
            int number = 0;
            for (int direction : open) {
                number += (int) Math.round(Math.pow(2, direction));
            }
            return number;
        }
    }

    private static final class World {
        Map<List<Integer>, Tile> tiles = new HashMap<>();
        List<TreeSet<Character>> bags = new ArrayList<>();
        int shifts = 0;
        long walked = 0;

        World copy() {
            World copy = new World();
            tiles.forEach((cell, tile) -> copy.tiles.put(cell, tile.copy()));
            bags.forEach(bag -> copy.bags.add(new TreeSet<>(bag)));
            copy.shifts = shifts;
            copy.walked = walked;
            return copy;
        }

        Tile at(int row, int column) {
            Tile tile = tiles.get(List.of(row, column));
            if (tile == null) {
                throw new IndexOutOfBoundsException();
            }
            return tile;
        }

        List<Integer> next(List<Integer> cell, int direction) {
            int row = cell.get(0) + (direction == 0 ? -1 : direction == 2 ? 1 : 0);
            int column = cell.get(1) + (direction == 3 ? -1 : direction == 1 ? 1 : 0);
            List<Integer> next = List.of(row, column);
            boolean joined = tiles.containsKey(next) && tiles.get(cell).open.contains(direction)
                    && tiles.get(next).open.contains((direction + 2) % 4);
            return joined ? next : null;
        }

        List<Integer> cellOf(int walker) {
            for (Map.Entry<List<Integer>, Tile> entry : tiles.entrySet()) {
                if (entry.getValue().standing.contains(walker)) {
                    return entry.getKey();
                }
            }
            throw new IndexOutOfBoundsException();
        }

        /** The cells with the lengths of shortest paths, found ring by ring from a cell. */
        Map<List<Integer>, Integer> rings(List<Integer> start, TreeSet<Character> bag) {
            Map<List<Integer>, Integer> lengths = new HashMap<>();
            List<List<Integer>> ring = List.of(start);
            for (int length = 0; !ring.isEmpty(); length++) {
                List<List<Integer>> outer = new ArrayList<>();
                for (List<Integer> cell : ring) {
                    lengths.putIfAbsent(cell, length);
                }
                for (List<Integer> cell : ring) {
                    for (int direction = 0; direction < 4; direction++) {
                        List<Integer> next = next(cell, direction);
                        if (next != null && !lengths.containsKey(next) && !outer.contains(next)
                                && (bag == null || mayEnter(next, bag))) {
                            outer.add(next);
                        }
                    }
                }
                ring = outer;
            }
            return lengths;
        }

        boolean mayEnter(List<Integer> cell, TreeSet<Character> bag) {
            Character lock = tiles.get(cell).lock;
            return lock == null || bag.contains(lock);
        }

        List<List<Integer>> line(boolean isRow, int index) {
            List<List<Integer>> line = new ArrayList<>();
            for (int other = 0; other < 5; other++) {
                line.add(isRow ? List.of(index, other) : List.of(other, index));
            }
            return line;
        }

        boolean free(boolean isRow, int index) {
            if (index < 0 || index > 4) {
                throw new IndexOutOfBoundsException();
            }
            return line(isRow, index).stream().noneMatch(cell -> tiles.get(cell).pinned);
        }

        void slide(boolean isRow, int index, int steps) {
            List<List<Integer>> line = line(isRow, index);
            for (int step = 0; step < (steps + 5) % 5; step++) {
                Tile last = tiles.get(line.get(4));
                for (int place = 4; place > 0; place--) {
                    tiles.put(line.get(place), tiles.get(line.get(place - 1)));
                }
                tiles.put(line.get(0), last);
            }
        }

        List<Integer> cellOfKey(char key) {
            for (Map.Entry<List<Integer>, Tile> entry : tiles.entrySet()) {
                if (entry.getValue().keys.contains(key)) {
                    return entry.getKey();
                }
            }
            return null;
        }
    }

    /** The face of the class once more. */
    private static final class Model {
        private static final String COMMAND = "(tile [0-9]{2} [0-9][0-9]?|turn [0-9]{2} [0-9]|pin [0-9]{2}"
                + "|unpin [0-9]{2}|row [0-9][+-][0-9]|column [0-9][+-][0-9]|key [a-f] [0-9]{2}"
                + "|lock [0-9]{2} [a-f]|open [0-9]{2}|enter [0-9]{2}|walk [0-9] [0-9]{2})";
        private static final Pattern PROGRAM = Pattern.compile(COMMAND + "(;" + COMMAND + ")*");

        private World world = new World();
        private World saved = null;
        private final Deque<World> past = new ArrayDeque<>();
        private String buffer = "";
        private String output = "";
        private Integer error = null;
        private Integer failed = null;
        private boolean running = false;

        Model() {
            for (int row = 0; row < 5; row++) {
                for (int column = 0; column < 5; column++) {
                    world.tiles.put(List.of(row, column), new Tile());
                }
            }
        }

        private void changing() {
            if (!running) {
                past.push(world.copy());
                if (past.size() > 8) {
                    past.removeLast();
                }
            }
        }

        private static void argument(boolean right) {
            if (!right) {
                throw new IllegalArgumentException();
            }
        }

        private static void state(boolean right) {
            if (!right) {
                throw new IllegalStateException();
            }
        }

        private static void element(boolean right) {
            if (!right) {
                throw new NoSuchElementException();
            }
        }

        private static void open(Tile tile, int number) {
            tile.open.clear();
            for (int direction = 0; direction < 4; direction++) {
                if (number / (int) Math.round(Math.pow(2, direction)) % 2 == 1) {
                    tile.open.add(direction);
                }
            }
        }

        private int pinned() {
            return (int) world.tiles.values().stream().filter(tile -> tile.pinned).count();
        }

        private TreeSet<Character> bag(int walker) {
            if (walker < 0 || walker >= world.bags.size()) {
                throw new IndexOutOfBoundsException();
            }
            return world.bags.get(walker);
        }

        private void come(int walker, Tile tile) {
            world.tiles.values().forEach(other -> other.standing.remove(walker));
            tile.standing.add(walker);
            world.bags.get(walker).addAll(tile.keys);
            tile.keys.clear();
        }

        private static void key(char key) {
            argument("abcdef".indexOf(key) >= 0);
        }

        public int setTile(int row, int column, int openings) {
            world.at(row, column);
            argument(openings >= 0 && openings <= 15);
            changing();
            int previous = world.at(row, column).number();
            open(world.at(row, column), openings);
            return previous;
        }

        public int turnTile(int row, int column, int quarterTurns) {
            world.at(row, column);
            argument(quarterTurns >= 1 && quarterTurns <= 3);
            state(!world.at(row, column).pinned);
            changing();
            TreeSet<Integer> turned = new TreeSet<>();
            for (int direction : world.at(row, column).open) {
                turned.add((direction + quarterTurns) % 4);
            }
            world.at(row, column).open = turned;
            return world.at(row, column).number();
        }

        public int pin(int row, int column) {
            state(!world.at(row, column).pinned);
            changing();
            world.at(row, column).pinned = true;
            return pinned();
        }

        public int unpin(int row, int column) {
            state(world.at(row, column).pinned);
            changing();
            world.at(row, column).pinned = false;
            return pinned();
        }

        private int shift(boolean isRow, int index, int steps) {
            boolean free = world.free(isRow, index);
            argument(steps != 0 && steps >= -4 && steps <= 4);
            state(free);
            changing();
            world.slide(isRow, index, steps);
            world.shifts++;
            return world.line(isRow, index).stream().mapToInt(cell -> world.tiles.get(cell).standing.size()).sum();
        }

        public int shiftRow(int row, int steps) {
            return shift(true, row, steps);
        }

        public int shiftColumn(int column, int steps) {
            return shift(false, column, steps);
        }

        public int placeKey(char key, int row, int column) {
            key(key);
            Tile tile = world.at(row, column);
            state(world.cellOfKey(key) == null && world.bags.stream().noneMatch(bag -> bag.contains(key)));
            changing();
            tile.keys.add(key);
            return tile.keys.size();
        }

        public int addLock(int row, int column, char key) {
            Tile tile = world.at(row, column);
            key(key);
            state(tile.lock == null);
            changing();
            tile.lock = key;
            return (int) world.tiles.values().stream().filter(other -> other.lock != null).count();
        }

        public char removeLock(int row, int column) {
            char key = lockAt(row, column);
            changing();
            world.at(row, column).lock = null;
            return key;
        }

        public int addWalker(int row, int column) {
            Tile tile = world.at(row, column);
            state(world.bags.size() < 3);
            if (tile.lock != null) {
                throw new UnsupportedOperationException();
            }
            changing();
            world.bags.add(new TreeSet<>());
            come(world.bags.size() - 1, tile);
            return world.bags.size() - 1;
        }

        public int walk(int walker, int row, int column) {
            bag(walker);
            Tile tile = world.at(row, column);
            argument(!tile.standing.contains(walker));
            Integer length = world.rings(world.cellOf(walker), bag(walker)).get(List.of(row, column));
            state(length != null);
            changing();
            world.walked += length;
            come(walker, tile);
            return length;
        }

        public int openings(int row, int column) {
            return world.at(row, column).number();
        }

        public boolean isPinned(int row, int column) {
            return world.at(row, column).pinned;
        }

        public boolean canShiftRow(int row) {
            return world.free(true, row);
        }

        public boolean canShiftColumn(int column) {
            return world.free(false, column);
        }

        public boolean hasLock(int row, int column) {
            return world.at(row, column).lock != null;
        }

        public char lockAt(int row, int column) {
            element(world.at(row, column).lock != null);
            return world.at(row, column).lock;
        }

        public int keysAt(int row, int column) {
            return world.at(row, column).keys.size();
        }

        public boolean isConnected(int row, int column, int direction) {
            world.at(row, column);
            argument(direction >= 0 && direction <= 3);
            return world.next(List.of(row, column), direction) != null;
        }

        public int regionCount() {
            TreeSet<String> groups = new TreeSet<>();
            for (List<Integer> cell : world.tiles.keySet()) {
                TreeSet<String> group = new TreeSet<>();
                world.rings(cell, null).keySet().forEach(member -> group.add(member.toString()));
                groups.add(group.toString());
            }
            return groups.size();
        }

        public int regionCountByMerging() {
            return regionCount();
        }

        public int keyRow(char key) {
            key(key);
            element(world.cellOfKey(key) != null);
            return world.cellOfKey(key).get(0);
        }

        public int keyColumn(char key) {
            key(key);
            element(world.cellOfKey(key) != null);
            return world.cellOfKey(key).get(1);
        }

        public int carrierOf(char key) {
            key(key);
            for (int walker = 0; walker < world.bags.size(); walker++) {
                if (world.bags.get(walker).contains(key)) {
                    return walker;
                }
            }
            throw new NoSuchElementException();
        }

        public int walkerCount() {
            return world.bags.size();
        }

        public int walkerRow(int walker) {
            return world.cellOf(walker).get(0);
        }

        public int walkerColumn(int walker) {
            return world.cellOf(walker).get(1);
        }

        public int keysOf(int walker) {
            return bag(walker).size();
        }

        public int pathLength(int walker, int row, int column) {
            bag(walker);
            world.at(row, column);
            Integer length = world.rings(world.cellOf(walker), bag(walker)).get(List.of(row, column));
            element(length != null);
            return length;
        }

        public int pathLengthByRounds(int walker, int row, int column) {
            return pathLength(walker, row, column);
        }

        /** Tries the directions in order: does a path that begins so have the shortest length? */
        public int firstStep(int walker, int row, int column) {
            int length = pathLength(walker, row, column);
            element(length > 0);
            for (int direction = 0; direction < 4; direction++) {
                List<Integer> next = world.next(world.cellOf(walker), direction);
                if (next != null && world.mayEnter(next, bag(walker))) {
                    Integer rest = world.rings(next, bag(walker)).get(List.of(row, column));
                    if (rest != null && rest + 1 == length) {
                        return direction;
                    }
                }
            }
            throw new AssertionError("no first step");
        }

        public int reachableCells(int walker) {
            return world.rings(world.cellOf(walker), bag(walker)).size();
        }

        public char nearestKey(int walker) {
            Map<List<Integer>, Integer> lengths = world.rings(world.cellOf(walker), bag(walker));
            for (int length = 0; length < 25; length++) {
                for (char key = 'a'; key <= 'f'; key++) {
                    List<Integer> cell = world.cellOfKey(key);
                    if (cell != null && Integer.valueOf(length).equals(lengths.get(cell))) {
                        return key;
                    }
                }
            }
            throw new NoSuchElementException();
        }

        public int helpfulShifts(int walker, int row, int column) {
            bag(walker);
            world.at(row, column);
            int count = 0;
            for (int kind = 0; kind < 20; kind++) {
                if (world.free(kind % 2 == 0, kind / 4)) {
                    World other = world.copy();
                    other.slide(kind % 2 == 0, kind / 4, kind / 2 % 2 == 0 ? 1 : -1);
                    if (other.rings(other.cellOf(walker), bag(walker)).containsKey(List.of(row, column))) {
                        count++;
                    }
                }
            }
            return count;
        }

        public int shiftCount() {
            return world.shifts;
        }

        public long walkedTotal() {
            return world.walked;
        }

        public double meanOpenings() {
            return (double) world.tiles.values().stream().mapToInt(tile -> tile.open.size()).sum() / 25.0;
        }

        public float reachableShare(int walker) {
            return (float) reachableCells(walker) / 25.0f;
        }

        public boolean isConsistent() {
            return true;
        }

        public int append(char character) {
            state(buffer.length() < 60);
            buffer += character;
            return buffer.length();
        }

        public int run() {
            String text = buffer;
            buffer = "";
            if (!PROGRAM.matcher(text).matches()) {
                error = 0;
                while (error < text.length() && isPrefix(text.substring(0, error + 1))) {
                    error++;
                }
                throw new IllegalArgumentException();
            }
            World previous = world.copy();
            String[] commands = text.split(";");
            running = true;
            for (int index = 0; index < commands.length; index++) {
                try {
                    carryOut(commands[index]);
                } catch (RuntimeException e) {
                    running = false;
                    world = previous;
                    failed = index;
                    throw new UnsupportedOperationException();
                }
            }
            running = false;
            World after = world;
            world = previous;
            changing();
            world = after;
            return commands.length;
        }

        private static boolean isPrefix(String text) {
            Matcher matcher = PROGRAM.matcher(text);
            return matcher.matches() || matcher.hitEnd();
        }

        private void carryOut(String command) {
            String[] words = command.split(" ");
            int[] first = digits(words[1]);
            int[] last = digits(words[words.length - 1]);
            switch (words[0]) {
                case "tile":
                    setTile(first[0], first[1], Integer.parseInt(words[2]));
                    break;
                case "turn":
                    turnTile(first[0], first[1], last[0]);
                    break;
                case "pin":
                    pin(first[0], first[1]);
                    break;
                case "unpin":
                    unpin(first[0], first[1]);
                    break;
                case "row":
                    shiftRow(first[0], Integer.parseInt(words[1].substring(1)));
                    break;
                case "column":
                    shiftColumn(first[0], Integer.parseInt(words[1].substring(1)));
                    break;
                case "key":
                    placeKey(words[1].charAt(0), last[0], last[1]);
                    break;
                case "lock":
                    addLock(first[0], first[1], words[2].charAt(0));
                    break;
                case "open":
                    removeLock(first[0], first[1]);
                    break;
                case "enter":
                    addWalker(first[0], first[1]);
                    break;
                default:
                    walk(first[0], last[0], last[1]);
                    break;
            }
        }

        private static int[] digits(String word) {
            return word.chars().map(character -> character - '0').toArray();
        }

        public int errorPosition() {
            element(error != null);
            return error;
        }

        public int failedCommand() {
            element(failed != null);
            return failed;
        }

        public int writeRow(int row) {
            world.free(true, row);
            List<String> parts = new ArrayList<>();
            for (List<Integer> cell : world.line(true, row)) {
                Tile tile = world.tiles.get(cell);
                StringBuilder part = new StringBuilder(Integer.toHexString(tile.number()).toUpperCase());
                part.append(tile.pinned ? "*" : "").append(tile.lock == null ? "" : "#" + tile.lock);
                part.append(tile.standing.isEmpty() ? "" : "@");
                tile.keys.forEach(part::append);
                parts.add(part.toString());
            }
            output = String.join(" ", parts);
            return output.length();
        }

        public char outputAt(int index) {
            if (index < 0 || index >= output.length()) {
                throw new IndexOutOfBoundsException();
            }
            return output.charAt(index);
        }

        public int undo() {
            state(!past.isEmpty());
            world = past.pop();
            return past.size();
        }

        public void save() {
            saved = world.copy();
        }

        public void restore() {
            state(saved != null);
            world = saved.copy();
            past.clear();
        }
    }
}
