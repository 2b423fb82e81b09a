import java.io.IOException;
import java.lang.reflect.InvocationTargetException;
import java.lang.reflect.Method;
import java.nio.file.Files;
import java.nio.file.Path;
import java.util.Arrays;
import java.util.Comparator;
import java.util.TreeSet;
import java.util.stream.IntStream;

/**
 * What the tests by sentences share. Each test tells first which sentence of the document it is about, by
 * the section and the sentence's own words, so that it can be found again; whether these words stand there
 * is looked at too.
 */
final class Sentences {
    static final int LOW = Integer.MIN_VALUE;
    static final int HIGH = Integer.MAX_VALUE;

    private static final Path DOCUMENT = Path.of("..", "shared", "DOC.md");

    /** Empty where the document does not lie there: then the answers alone are looked at. */
    private final String document;

    private final TreeSet<String> sections = new TreeSet<>();
    private int heap = 1;
    private String section = "";
    private String words = "";
    private int asked = 0;
    private int wrong = 0;

    Sentences() throws IOException {
        document = Files.exists(DOCUMENT) ? Files.readString(DOCUMENT) : "";
        if (document.isEmpty()) {
            System.out.println("there is no " + DOCUMENT + ": the words of the sentences are not looked up");
        }
    }

    /** Says which sentence the next answers are about. */
    void about(String newSection, String newWords) {
        section = newSection;
        words = newWords;
        sections.add(section);
        if (!document.isEmpty() && !textOf(section).contains(words)) {
            fault("these words do not stand there");
        }
    }

    void due(String call, int got, int want) {
        asked++;
        if (got != want) {
            fault(call + " answered " + got + ", due is " + want);
        }
    }

    void due(String what, String got, String want) {
        asked++;
        if (!got.equals(want)) {
            fault(what + ": '" + got + "', due is '" + want + "'");
        }
    }

    private void fault(String what) {
        wrong++;
        System.out.println(section + ", '" + words + "', heap " + heap + ": " + what);
    }

    private String textOf(String heading) {
        int begin = Math.max(document.indexOf("\n## " + heading + ":"), document.indexOf("\n## " + heading + "\n"));
        if (begin < 0) {
            return "";
        }
        int end = document.indexOf("\n## ", begin + 1);
        return document.substring(begin, end < 0 ? document.length() : end);
    }

    /** Runs all methods of a class that are tests (static, void, given nothing), for each HEAP, and ends. */
    void runAll(Class<?> tests, String... sectionsDue) throws IllegalAccessException, InvocationTargetException {
        Method[] methods = Arrays.stream(tests.getDeclaredMethods())
                .filter(method -> method.getParameterCount() == 0 && method.getReturnType() == void.class)
                .filter(method -> !method.isSynthetic())
                .sorted(Comparator.comparing(Method::getName)).toArray(Method[]::new);
        for (heap = 1; heap <= 3; heap++) {
            for (Method method : methods) {
                section = "";
                words = method.getName();
                int before = asked;
                method.invoke(null);
                if (section.isEmpty() || asked == before) {
                    fault("this test is about no sentence, or asks nothing");
                }
            }
        }
        for (String due : sectionsDue) {
            if (!sections.contains(due)) {
                section = due;
                words = "";
                fault("no test is about this section");
            }
        }
        System.out.println(asked + " answers, " + wrong + " faults");
        if (wrong != 0) {
            System.exit(1);
        }
    }

    int heap() {
        return heap;
    }

    /** An object with so many nodes and these arcs, three numbers each: from, to, weight. */
    LeastPaths graph(int nodes, int... arcs) {
        LeastPaths x = new LeastPaths(heap);
        grow(x, nodes, arcs);
        return x;
    }

    /** Gives an object without nodes so many nodes and these arcs. */
    void grow(LeastPaths x, int nodes, int... arcs) {
        for (int n = 0; n < nodes; n++) {
            due("node()", x.node(), n);
        }
        for (int i = 0; i + 2 < arcs.length; i += 3) {
            due("arc " + i / 3, x.arc(arcs[i], arcs[i + 1], arcs[i + 2]), i / 3);
        }
    }

    /** The full graph: 10 nodes, 40 arcs, arc e from e % 9 to the node behind it. */
    LeastPaths full(int weight) {
        LeastPaths x = graph(10);
        for (int e = 0; e < 40; e++) {
            due("arc " + e, x.arc(e % 9, e % 9 + 1, weight), e);
        }
        return x;
    }

    /** Numbers outside 0 .. n - 1: the nearest, the farthest, and what a shift or a mask would take for others. */
    static int[] outside(int n) {
        int[] all = {LOW, LOW + 1, -256, -64, -63, -32, -2, -1, n, n + 1, 32, 64, 65, 256, 65536, HIGH - 1, HIGH};
        return IntStream.of(all).filter(v -> v < 0 || v >= n).distinct().toArray();
    }
}
