import java.io.IOException;
import java.lang.reflect.Constructor;
import java.lang.reflect.Field;
import java.lang.reflect.Method;
import java.lang.reflect.Modifier;
import java.nio.file.Files;
import java.nio.file.Path;
import java.util.Arrays;
import java.util.List;
import java.util.TreeSet;
import java.util.regex.Matcher;
import java.util.regex.Pattern;

/** The public face of the document, and those rules of the language that can be seen without reading. */
public final class LeastPathsFace {
    private static final Path SOURCE = Path.of("src", "main", "java", "LeastPaths.java");
    private static final Path DOCUMENT = Path.of("..", "shared", "DOC.md");

    private static final List<String> FACE = List.of(
            "heap()", "node()", "arc(int,int,int)", "share(int,int,int)", "drop(int)", "source(int,boolean)",
            "rest(int,int)", "clear()", "distance(int)", "hops(int)", "step(int)", "ways(int)", "tree(int,int)",
            "reached()", "good(int)", "led(int,int)", "ledTo(int,int)", "both(int,int)", "bothTo(int,int)",
            "kth(int,int,int)", "kthArc(int,int,int,int)", "widest(int,int)", "trust(int,int,int)", "ring()",
            "ringArc(int)", "missed(int,int)");

    /** What the interface says ahead of the first call of each group. */
    private static final List<String> GROUPS = List.of(
            "---- trees|public int distance(", "---- searches|public int good(",
            "---- one after the other|public int kth(", "---- others|public int widest(");

    private static final Pattern FORBIDDEN = Pattern.compile(
            "\\b(throw|throws|try|catch|synchronized|assert|import|package|protected|double|float)\\b"
                    + "|->|::|\\w+Exact\\b");

    private static int wrong = 0;

    private static void check(boolean holds, String what) {
        if (!holds) {
            wrong++;
            System.out.println("does not hold: " + what);
        }
    }

    public static void main(String[] args) throws IOException {
        Class<?> face = LeastPaths.class;
        check(Modifier.isPublic(face.getModifiers()) && Modifier.isFinal(face.getModifiers()), "public and final");
        methods(face);
        for (Constructor<?> made : face.getDeclaredConstructors()) {
            boolean same = Arrays.equals(made.getParameterTypes(), new Class<?>[] {int.class});
            check(Modifier.isPublic(made.getModifiers()) && same, "one constructor, with an int: " + made);
        }
        fields(face);
        for (Class<?> inside : face.getDeclaredClasses()) {
            check(Modifier.isStatic(inside.getModifiers()), "static: " + inside);
            check(!Modifier.isPublic(inside.getModifiers()), "not public: " + inside);
            fields(inside);
            insideMethods(inside);
        }
        check(face.getDeclaredClasses().length < 12, "at most some twelve classes");
        source(Files.readString(SOURCE));
        document(Files.readString(SOURCE));
        System.out.println(wrong == 0 ? "the face is as due" : wrong + " things do not hold");
        if (wrong != 0) {
            System.exit(1);
        }
    }

    private static void methods(Class<?> face) {
        TreeSet<String> found = new TreeSet<>();
        TreeSet<String> names = new TreeSet<>();
        for (Method method : face.getDeclaredMethods()) {
            boolean open = Modifier.isPublic(method.getModifiers());
            check(open || Modifier.isPrivate(method.getModifiers()), "public or private: " + method);
            check(names.add(method.getName()), "a name is there once: " + method);
            if (open) {
                String text = method.toString();
                found.add(text.substring(text.indexOf("LeastPaths.") + "LeastPaths.".length()));
                check(method.getReturnType() == int.class && !Modifier.isStatic(method.getModifiers()), "" + method);
            }
        }
        check(found.equals(new TreeSet<>(FACE)), "the public methods are those of the document: " + found);
    }

    private static void insideMethods(Class<?> inside) {
        for (Method method : inside.getDeclaredMethods()) {
            check(FACE.stream().noneMatch(due -> due.startsWith(method.getName() + "(")), "another name: " + method);
            check(method.getParameterCount() <= 7, "at most seven parameters: " + method);
        }
    }

    private static void fields(Class<?> owner) {
        int own = 0;
        for (Field field : owner.getDeclaredFields()) {
            boolean constant = Modifier.isStatic(field.getModifiers());
            own += constant ? 0 : 1;
            check(!constant || Modifier.isFinal(field.getModifiers()), "static and final: " + field);
            check(owner != LeastPaths.class || Modifier.isPrivate(field.getModifiers()), "private: " + field);
        }
        check(own <= 20, "some twenty fields at most: " + owner);
    }

    private static void source(String text) {
        String code = text.replaceAll("(?s)/\\*.*?\\*/", "").replaceAll("//[^\n]*", "");
        Matcher found = FORBIDDEN.matcher(code);
        while (found.find()) {
            check(false, "the language is without: " + found.group());
        }
        for (String group : GROUPS) {
            String[] parts = group.split("\\|");
            int ahead = text.indexOf("// " + parts[0] + "\n");
            int call = text.indexOf(parts[1]);
            boolean isAhead = ahead >= 0 && ahead < call && !text.substring(ahead, call).contains("public int ");
            check(isAhead, "ahead of '" + parts[1] + "' stands: " + parts[0]);
        }
    }

    /** The signatures of 'The public face' stand in the source as they do there, no more and no less. */
    private static void document(String text) throws IOException {
        if (!Files.exists(DOCUMENT)) {
            System.out.println("there is no " + DOCUMENT + ": its face is not compared with the source");
            return;
        }
        String face = Files.readString(DOCUMENT);
        face = face.substring(face.indexOf("```java"), face.indexOf("```\n", face.indexOf("```java") + 1));
        check(signatures(face, ";").size() == FACE.size() + 1, "the document has all calls and a constructor");
        check(signatures(face, ";").equals(signatures(text, " {")),
                "the face is " + signatures(face, ";") + ", the source has " + signatures(text, " {"));
    }

    /** What is public inside the class, in its order. */
    private static List<String> signatures(String text, String end) {
        return text.lines().map(String::strip)
                .filter(line -> line.startsWith("public ") && line.endsWith(")" + end))
                .map(line -> line.substring(0, line.length() - end.length())).toList();
    }
}
