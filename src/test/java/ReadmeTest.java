import java.io.File;
import java.io.IOException;
import java.lang.reflect.Method;
import java.lang.reflect.Modifier;
import java.nio.file.Files;
import java.nio.file.Path;
import java.util.ArrayList;
import java.util.Comparator;
import java.util.List;
import java.util.TreeSet;
import java.util.regex.Matcher;
import java.util.regex.Pattern;
import java.util.stream.Stream;

/** Tests that README.md holds as it is written: its examples, its commands, the calls and the tests that it names. */
public final class ReadmeTest {
    private static final Path TESTS = Path.of("src/test/java");
    // The whole run cannot be run by one of its own tests.
    private static final String WHOLE_RUN = ".ci/run";
    // Where the page puts what its commands compile; the test puts it into a folder of its own.
    private static final String PAGE_FOLDER = "/tmp/out";
    // A line of an example: what is declared, the call, and what is due.
    private static final Pattern DUE =
            Pattern.compile("(?:\\w+ (\\w+) = )?(.+);\\s*// (answers|throws) ([^,]+)(?:,.*)?");
    private static int wrong = 0;

    private ReadmeTest() {
    }

    public static void main(String[] args) throws IOException, InterruptedException {
        List<String> page = Files.readAllLines(Path.of("README.md"));
        Path folder = Files.createTempDirectory("readme");
        try {
            checkExamples(blocks(page, "java"), folder);
            checkCommands(blocks(page, "sh"), folder);
        } finally {
            remove(folder);
        }
        String words = String.join("\n", page);
        checkCallsNamed(words);
        checkTestsNamed(words);
        System.out.println(wrong == 0 ? "README.md holds" : wrong + " faults");
        System.exit(wrong == 0 ? 0 : 1);
    }

    /** The blocks of the page in this language, each with its lines. */
    private static List<List<String>> blocks(List<String> page, String language) {
        List<List<String>> found = new ArrayList<>();
        List<String> block = null;
        for (String line : page) {
            if (line.startsWith("```")) {
                boolean opens = block == null;
                block = opens ? new ArrayList<>() : null;
                if (opens && line.equals("```" + language)) {
                    found.add(block);
                }
            } else if (block != null) {
                block.add(line);
            }
        }
        check(!found.isEmpty(), "the page has blocks in " + language);
        return found;
    }

    /** Carries out all examples, one after the other, as one program. */
    private static void checkExamples(List<List<String>> blocks, Path folder)
            throws IOException, InterruptedException {
        List<String> lines = new ArrayList<>();
        lines.add("import java.util.NoSuchElementException;");
        lines.add("public final class Example {");
        lines.add("static int wrong = 0;");
        lines.add("static void due(String call, Object got, String want) {");
        lines.add("if (!String.valueOf(got).equals(want)) { wrong++;");
        lines.add("System.out.println(call + \" answered \" + got + \", the page says \" + want); } }");
        lines.add("public static void main(String[] args) {");
        int dues = 0;
        for (List<String> block : blocks) {
            for (String line : block) {
                Matcher due = DUE.matcher(line);
                dues += due.matches() ? 1 : 0;
                lines.add(due.matches() ? checked(line, due) : line);
            }
        }
        lines.add("System.exit(wrong == 0 ? 0 : 1); } }");
        check(dues >= 20, "the examples tell answers");
        Path source = folder.resolve("Example.java");
        Files.write(source, lines);
        runShell("javac -d " + folder + " src/main/java/BrambleShift.java " + source
                + " && java -cp " + folder + " Example");
    }

    /** The line as a program that tells if not what the page says is answered or thrown. */
    private static String checked(String line, Matcher due) {
        String call = due.group(2);
        String told = "\"" + call.replace("\"", "\\\"") + "\"";
        String want = due.group(4).trim();
        if (due.group(3).equals("throws")) {
            return "try { due(" + told + ", " + call + ", \"" + want + "\"); } catch (" + want + " e) { }";
        }
        String name = due.group(1);
        String before = name == null ? "" : line.substring(0, line.indexOf("//"));
        return before + "due(" + told + ", " + (name == null ? call : name) + ", \"" + want + "\");";
    }

    private static void checkCommands(List<List<String>> blocks, Path folder)
            throws IOException, InterruptedException {
        for (List<String> block : blocks) {
            String command = String.join("\n", block);
            if (command.equals(WHOLE_RUN)) {
                check(Files.isExecutable(Path.of(WHOLE_RUN)), WHOLE_RUN + " can be run");
            } else {
                check(command.contains(PAGE_FOLDER), "puts what it makes into " + PAGE_FOLDER + ": " + command);
                runShell(command.replace(PAGE_FOLDER, folder.resolve("out" + blocks.indexOf(block)).toString()));
            }
        }
    }

    private static void runShell(String command) throws IOException, InterruptedException {
        File output = File.createTempFile("readme", ".txt");
        Process process = new ProcessBuilder("sh", "-c", command).redirectErrorStream(true)
                .redirectOutput(output).start();
        int code = process.waitFor();
        check(code == 0, "exit code " + code + " of: " + command + "\n" + Files.readString(output.toPath()));
        check(output.delete(), "the output of the command is removed");
    }

    private static void checkCallsNamed(String words) {
        for (Method method : BrambleShift.class.getDeclaredMethods()) {
            if (Modifier.isPublic(method.getModifiers())) {
                check(words.contains("`" + method.getName() + "`"), "the page names the call " + method.getName());
            }
        }
    }

    private static void checkTestsNamed(String words) throws IOException {
        TreeSet<String> named = new TreeSet<>();
        Matcher name = Pattern.compile("`(\\w+Test)`").matcher(words);
        while (name.find()) {
            named.add(name.group(1));
        }
        TreeSet<String> there = new TreeSet<>();
        try (Stream<Path> files = Files.list(TESTS)) {
            files.forEach(file -> there.add(file.getFileName().toString().replace(".java", "")));
        }
        check(named.equals(there), "the page names the tests " + named + ", there are " + there);
    }

    private static void remove(Path folder) throws IOException {
        List<Path> all;
        try (Stream<Path> files = Files.walk(folder)) {
            all = files.sorted(Comparator.reverseOrder()).toList();
        }
        for (Path file : all) {
            Files.delete(file);
        }
    }

    private static void check(boolean right, String message) {
        if (!right) {
            wrong++;
            System.out.println("not so: " + message);
        }
    }
}
