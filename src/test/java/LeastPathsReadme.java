import java.io.IOException;
import java.nio.file.Files;
import java.nio.file.Path;
import java.util.ArrayList;
import java.util.HashMap;
import java.util.List;
import java.util.Map;
import java.util.TreeSet;
import java.util.regex.Matcher;
import java.util.regex.Pattern;
import java.util.stream.Stream;

/** What README.md says of answers is true: its example is run, and its tables are compared with the document. */
public final class LeastPathsReadme {
    private static final Path README = Path.of("README.md");
    private static final Path SOURCE = Path.of("src", "main", "java", "LeastPaths.java");
    private static final Path DOCUMENT = Path.of("..", "shared", "DOC.md");

    private static final Pattern MADE = Pattern.compile("LeastPaths paths = new LeastPaths\\((-?\\d+)\\);");
    /** A call of the example, with the name that its answer gets, and the answer told behind it. */
    private static final Pattern CALL =
            Pattern.compile("(?:int (\\w+) = )?paths\\.((\\w+)\\(.*\\)); +// (-?\\d+)(?:: .*)?");
    private static final Pattern SIGNATURE = Pattern.compile("public int (\\w+)\\((.*)\\) \\{");
    private static final Pattern PROMISE = Pattern.compile("## Promise \\d+: (\\w+)\n\n`.*?`: (.*)");
    private static final Pattern REFUSAL = Pattern.compile("(?<![\\w-])-[1-4]\\b");

    private static int wrong = 0;

    private static void check(boolean holds, String what) {
        if (!holds) {
            wrong++;
            System.out.println("does not hold: " + what);
        }
    }

    public static void main(String[] args) throws IOException {
        String readme = Files.readString(README);
        TreeSet<String> face = face();
        check(face.size() == 26, "the class has 26 calls");
        example(readme, face);
        tables(readme, face);
        tests(readme);
        System.out.println(wrong == 0 ? "README.md is true" : wrong + " things do not hold");
        if (wrong != 0) {
            System.exit(1);
        }
    }

    /** The calls of the class with the names of what they are given, as in "rest(node, v)". */
    private static TreeSet<String> face() throws IOException {
        TreeSet<String> calls = new TreeSet<>();
        Matcher found = SIGNATURE.matcher(Files.readString(SOURCE));
        while (found.find()) {
            calls.add(found.group(1) + "(" + found.group(2).replaceAll("\\b(int|boolean) ", "") + ")");
        }
        return calls;
    }

    // ---- the example

    private static void example(String readme, TreeSet<String> face) {
        int begin = readme.indexOf("```java\n") + "```java\n".length();
        String[] lines = readme.substring(begin, readme.indexOf("```", begin)).split("\n");
        Matcher made = MADE.matcher(lines[0]);
        check(made.matches(), "the example begins with an object: " + lines[0]);
        int heap = made.matches() ? Integer.parseInt(made.group(1)) : 1;
        TreeSet<String> called = new TreeSet<>();
        LeastPaths paths = new LeastPaths(heap);
        Map<String, Integer> names = new HashMap<>();
        for (int i = 1; i < lines.length; i++) {
            if (!lines[i].isBlank() && !lines[i].startsWith("//")) {
                called.add(run(paths, lines[i], names));
            }
        }
        for (String call : face) {
            check(called.contains(nameOf(call)), "the example has the call " + call);
        }
    }

    /** Makes the call of a line, compares its answer with the one told there, and answers the call's name. */
    private static String run(LeastPaths paths, String line, Map<String, Integer> names) {
        Matcher call = CALL.matcher(line);
        if (!call.matches()) {
            check(false, "a call with its answer: " + line);
            return "";
        }
        String text = call.group(2);
        for (Map.Entry<String, Integer> name : names.entrySet()) {
            text = text.replaceAll("\\b" + name.getKey() + "\\b(?!\\()", name.getValue().toString());
        }
        int got = Calls.answer(paths, text);
        check(got == Integer.parseInt(call.group(4)), line + " answers " + got);
        if (call.group(1) != null) {
            names.put(call.group(1), got);
        }
        return call.group(3);
    }

    private static String nameOf(String call) {
        return call.substring(0, call.indexOf('('));
    }

    // ---- the tables

    private static void tables(String readme, TreeSet<String> face) throws IOException {
        Map<String, List<String>> due = refusalsDue();
        TreeSet<String> told = new TreeSet<>();
        for (String line : readme.split("\n")) {
            if (!line.startsWith("| `")) {
                continue;
            }
            String[] cells = line.split("\\|", -1);
            check(cells.length == 5, "three cells: " + line);
            String call = cells[1].replace("`", "").strip();
            check(told.add(call), "a call has one line: " + line);
            check(!cells[2].isBlank(), "an answer is told: " + line);
            List<String> refusals = refusalsIn(cells[3]);
            List<String> want = due.getOrDefault(nameOf(call), refusals);
            check(refusals.equals(want), "the refusals of " + call + " are " + want + ": " + line);
        }
        check(told.equals(face), "the tables have the calls of the class: " + told);
    }

    /** The refusals of each promise in their order; none where the document does not lie there. */
    private static Map<String, List<String>> refusalsDue() throws IOException {
        Map<String, List<String>> due = new HashMap<>();
        if (!Files.exists(DOCUMENT)) {
            System.out.println("there is no " + DOCUMENT + ": the refusals are not compared with it");
            return due;
        }
        Matcher promise = PROMISE.matcher(Files.readString(DOCUMENT));
        while (promise.find()) {
            due.put(promise.group(1), refusalsIn(promise.group(2)));
        }
        check(due.size() == 26, "the document has a promise for each call: " + due.keySet());
        return due;
    }

    private static List<String> refusalsIn(String text) {
        List<String> all = new ArrayList<>();
        Matcher refusal = REFUSAL.matcher(text);
        while (refusal.find()) {
            all.add(refusal.group());
        }
        return all;
    }

    // ---- the tests

    private static void tests(String readme) throws IOException {
        try (Stream<Path> files = Files.list(Path.of("src", "test", "java"))) {
            files.map(file -> file.getFileName().toString().replace(".java", ""))
                    .forEach(name -> check(readme.contains("- `" + name + "`: "), "the test " + name + " is told"));
        }
        check(readme.contains(".ci/run") && Files.isExecutable(Path.of(".ci", "run")), "how the tests are run");
    }
}
