import java.util.ArrayList;
import java.util.List;
import java.util.Set;
import java.util.stream.IntStream;

/**
 * Calls one after the other on one object: a story for each promise, in which the graph is changed, dropped
 * from, cleared and built again between questions. All answers were worked out by hand. Each story is told
 * several times: as it is; each question asked twice; on an object that had a full graph before and was
 * cleared; with another call that changes nothing ahead of each of its calls; and its changes alone, with one
 * question asked after each of them, which a new object is asked too.
 */
public final class LeastPathsTurns {
    private static final int MOST_CALLS = 512;

    private static final Set<String> CHANGES = Set.of("node", "arc", "share", "drop", "source", "rest", "clear");

    /** Questions, and changes that are refused in every graph: none of them changes what others answer. */
    private static final List<String> BETWEEN = List.of(
            "heap()", "distance(1)", "hops(1)", "step(1)", "ways(3)", "tree(2, 0)", "reached()", "good(0)", "led(0, 1)",
            "led(3, 0)", "ledTo(0, 3)", "both(0, 1)", "both(3, 0)", "bothTo(0, 3)", "kth(0, 1, 29)", "kth(2, 0, 1)",
            "kthArc(0, 3, 29, 0)", "kthArc(1, 0, 0, 1)", "widest(0, 1)", "widest(2, 1)", "trust(0, 3, 0)",
            "trust(1, 2, 1)", "ring()", "ringArc(0)", "missed(0, 1)", "missed(0, 3)", "arc(0, 0, 1)", "arc(0, 10, 1)",
            "arc(0, 1, -1)", "share(40, 1, 2)", "share(0, 2, 1)", "drop(40)", "drop(-1)", "source(10, true)",
            "source(-1, false)", "rest(10, 1)", "rest(0, -1)", "rest(1, 1000001)");

    /** Of each question some that the changes of the stories touch. */
    private static final List<String> ASKED_AGAIN = List.of(
            "heap()", "distance(2)", "distance(3)", "hops(3)", "step(2)", "ways(3)", "tree(3, 0)", "tree(2, 1)",
            "reached()", "good(2)", "led(0, 3)", "ledTo(0, 3)", "both(0, 3)", "bothTo(0, 3)", "kth(0, 3, 0)",
            "kth(0, 3, 2)", "kthArc(0, 3, 1, 0)", "widest(0, 2)", "trust(0, 2, 1)", "trust(0, 1, 0)", "ring()",
            "ringArc(0)", "missed(0, 3)", "missed(0, 2)");

    private static Sentences doc;

    public static void main(String[] args) throws Exception {
        doc = new Sentences();
        String[] promises = IntStream.rangeClosed(1, 27).mapToObj(i -> "Promise " + i).toArray(String[]::new);
        doc.runAll(LeastPathsTurns.class, promises);
    }

    // ---- how a story is told

    /** A call of a story and its answer. */
    private record Turn(String call, int want) {
        boolean isQuestion() {
            return !CHANGES.contains(call.substring(0, call.indexOf('(')));
        }
    }

    /** Tells a story: calls with their answers, "call = answer"; "nodes(n)" stands for the first n nodes. */
    private static void tell(String... lines) {
        List<Turn> story = read(lines);
        run("as it is", new LeastPaths(doc.heap()), 0, story);
        run("each question twice", new LeastPaths(doc.heap()), 0, twice(story));
        LeastPaths old = new LeastPaths(doc.heap());
        run("on an object that was used before", old, use(old), story);
        for (String other : BETWEEN) {
            run("with " + other + " between", new LeastPaths(doc.heap()), 0, between(other, story));
        }
        List<String> changes = story.stream().filter(turn -> !turn.isQuestion()).map(Turn::call).toList();
        for (String question : ASKED_AGAIN) {
            askAgain(question, changes);
        }
    }

    /** Asks one question after each change: the answer is that of an object which was not asked before. */
    private static void askAgain(String question, List<String> changes) {
        LeastPaths x = new LeastPaths(doc.heap());
        for (int made = 0; made < changes.size(); made++) {
            Calls.answer(x, changes.get(made));
            LeastPaths unasked = new LeastPaths(doc.heap());
            for (String change : changes.subList(0, made + 1)) {
                Calls.answer(unasked, change);
            }
            int want = Calls.answer(unasked, question);
            doc.due(question + " after change " + made + ", " + changes.get(made), Calls.answer(x, question), want);
            doc.due(question + " again", Calls.answer(x, question), want);
        }
    }

    private static List<Turn> read(String... lines) {
        List<Turn> story = new ArrayList<>();
        for (String part : String.join(";", lines).split(";")) {
            String[] sides = part.strip().split(" = ");
            if (sides.length == 2) {
                story.add(new Turn(sides[0], sides[1].equals("HEAP") ? doc.heap() : Integer.parseInt(sides[1])));
                continue;
            }
            int nodes = Integer.parseInt(part.replaceAll("\\D", ""));
            for (int n = 0; n < nodes; n++) {
                story.add(new Turn("node()", n));
            }
        }
        return story;
    }

    private static List<Turn> twice(List<Turn> story) {
        List<Turn> all = new ArrayList<>();
        for (Turn turn : story) {
            all.add(turn);
            if (turn.isQuestion()) {
                all.add(turn);
            }
        }
        return all;
    }

    /** The story with another call ahead of each of its calls; what that answers is not looked at. */
    private static List<Turn> between(String other, List<Turn> story) {
        List<Turn> all = new ArrayList<>();
        for (Turn turn : story) {
            all.add(new Turn(other, Integer.MIN_VALUE));
            all.add(turn);
        }
        return all;
    }

    private static void run(String how, LeastPaths x, int callsBefore, List<Turn> story) {
        int calls = callsBefore;
        for (Turn turn : story) {
            calls++;
            int got = Calls.answer(x, turn.call);
            if (turn.want != Integer.MIN_VALUE) {
                doc.due(how + ", call " + calls + ", " + turn.call, got, turn.want);
            }
        }
        doc.due(how + ": calls beyond 512", Math.max(0, calls - MOST_CALLS), 0);
    }

    /** Fills an object with all that a graph can have, asks all questions, and clears it: how many calls it took. */
    private static int use(LeastPaths x) {
        int calls = 0;
        for (int n = 0; n < 10; n++) {
            x.node();
            x.source(n, true);
            x.rest(n, 1000000);
            calls += 3;
        }
        for (int e = 0; e < 40; e++) {
            int from = e % 10;
            x.arc(from, (from + 1 + e / 10) % 10, 0);
            x.share(e, 0, 9);
            calls += 2;
        }
        x.drop(0);
        calls++;
        for (String question : BETWEEN) {
            Calls.answer(x, question);
            calls++;
        }
        x.clear();
        return calls + 1;
    }

    // ---- making and changing

    static void promise01() {
        doc.about("Promise 1", "no answer hangs on it");
        tell("heap() = HEAP; node() = 0; heap() = HEAP; node() = 1; arc(0, 1, 5) = 0; heap() = HEAP",
                "kth(0, 1, 0) = 5",
                "clear() = 2; heap() = HEAP; kth(0, 1, 0) = -1; nodes(2); arc(1, 0, 2) = 0; kth(1, 0, 0) = 2");
    }

    static void promise02() {
        doc.about("Promise 2", "HEAP as it is.");
        tell("heap() = HEAP; heap() = HEAP; clear() = 0; heap() = HEAP; nodes(10); heap() = HEAP; node() = -4",
                "heap() = HEAP; arc(9, 0, 3) = 0; heap() = HEAP; drop(0) = 0; heap() = HEAP; clear() = 10",
                "heap() = HEAP");
    }

    static void promise03() {
        doc.about("Promise 3", "A NODE more: its number.");
        tell("node() = 0; node() = 1; source(1, true) = 0; reached() = 2",
                // A node more changes nothing of the others, and is no source.
                "node() = 2; reached() = 2; distance(2) = -3; distance(3) = -1; source(2, true) = 0; reached() = 6",
                "arc(2, 1, 4) = 0; drop(0) = 0; node() = 3; reached() = 6",
                "clear() = 4; distance(0) = -1; node() = 0; reached() = 0; distance(1) = -1; node() = 1",
                "distance(1) = -3",
                "node() = 2; rest(2, 0) = 0; rest(3, 0) = -1");
    }

    static void promise04() {
        doc.about("Promise 4", "An ARC more: its number.");
        tell("nodes(3); arc(0, 1, 5) = 0; kth(0, 1, 0) = 5; kth(0, 1, 1) = -3",
                "arc(0, 1, 3) = 1; kth(0, 1, 0) = 3; kth(0, 1, 1) = 5; kth(0, 1, 2) = -3",
                "drop(1) = 1; kth(0, 1, 0) = 5; arc(0, 1, 4) = 2; kth(0, 1, 0) = 4; kthArc(0, 1, 0, 0) = 2",
                "kthArc(0, 1, 1, 0) = 0; node() = 3; arc(1, 3, 1) = 3; kth(0, 3, 0) = 5",
                "clear() = 4; arc(0, 1, 5) = -1; nodes(2); kth(0, 1, 0) = -3; arc(1, 0, 8) = 0",
                "kth(0, 1, 0) = -3; kth(1, 0, 0) = 8; kthArc(1, 0, 0, 0) = 0; arc(0, 3, 1) = -1");
    }

    /** Forty arcs, twice: the room is there again after clear(), and not after drop(). */
    static void promise04Room() {
        doc.about("Promise 4", "-4.");
        List<String> story = new ArrayList<>();
        for (int round = 1; round <= 2; round++) {
            story.add("nodes(2)");
            for (int e = 0; e < 40; e++) {
                story.add("arc(" + e % 2 + ", " + (e + 1) % 2 + ", " + e * round + ") = " + e);
            }
            story.add("arc(0, 1, 0) = -4; drop(0) = 39; arc(0, 1, 0) = -4; kth(0, 1, 0) = " + 2 * round);
            story.add("clear() = 2");
        }
        tell(story.toArray(new String[0]));
    }

    static void promise05() {
        doc.about("Promise 5", "An ARC's SHARE: 1.");
        tell("nodes(2); arc(0, 1, 5) = 0; trust(0, 1, 0) = 1; trust(0, 1, 1) = 1",
                "share(0, 2, 3) = 1; trust(0, 1, 0) = 2; trust(0, 1, 1) = 3; share(0, 6, 9) = 1; trust(0, 1, 0) = 2",
                "trust(0, 1, 1) = 3; share(0, 1, 3) = 1; trust(0, 1, 0) = 1; arc(0, 1, 5) = 1; trust(0, 1, 1) = 1",
                "share(1, 1, 2) = 1; trust(0, 1, 1) = 2; drop(1) = 1; trust(0, 1, 1) = 3; share(1, 1, 1) = -1",
                "trust(0, 1, 1) = 3; kth(0, 1, 0) = 5; widest(0, 1) = 5",
                // An arc with the number of one that was there before clear() has nothing of it.
                "clear() = 2; share(0, 1, 2) = -1; nodes(2); share(0, 1, 2) = -1; arc(0, 1, 5) = 0",
                "trust(0, 1, 0) = 1",
                "trust(0, 1, 1) = 1; share(0, 4, 8) = 1; trust(0, 1, 0) = 1; trust(0, 1, 1) = 2");
    }

    static void promise06() {
        doc.about("Promise 6", "An ARC is no more: how many there are.");
        tell("nodes(3); arc(0, 1, 1) = 0; arc(1, 2, 1) = 1; arc(0, 2, 5) = 2; arc(2, 0, 1) = 3; source(0, true) = 0",
                "distance(2) = 2; ring() = 3; missed(0, 2) = 0; both(0, 2) = 2; widest(0, 2) = 5; led(0, 2) = 3",
                "drop(1) = 3; distance(2) = 5; step(2) = 2; ring() = 6; missed(0, 2) = 2; both(0, 2) = 2",
                "led(0, 2) = 3",
                "drop(1) = -1; drop(3) = 2; ring() = -3; reached() = 7; drop(2) = 1; reached() = 3; distance(2) = -3",
                "drop(0) = 0; reached() = 1; arc(0, 2, 9) = 4; distance(2) = 9; drop(4) = 0; distance(2) = -3",
                "clear() = 3; drop(0) = -1; nodes(2); drop(0) = -1; arc(0, 1, 1) = 0; arc(1, 0, 1) = 1; ring() = 2",
                "drop(1) = 1; ring() = -3; drop(1) = -1; drop(0) = 0; kth(0, 1, 0) = -3");
    }

    static void promise07() {
        doc.about("Promise 7", "Whether a NODE is a SOURCE from now on: whether it was: 1 or 0.");
        tell("nodes(3); arc(0, 1, 4) = 0; arc(1, 2, 4) = 1; reached() = 0; source(0, true) = 0; distance(2) = 8",
                "source(0, true) = 1; distance(2) = 8; source(1, true) = 0; distance(2) = 4; hops(2) = 1",
                "step(1) = -3",
                "source(0, false) = 1; reached() = 6; distance(0) = -3; source(0, false) = 0; source(1, false) = 1",
                "reached() = 0; distance(2) = -3; source(2, true) = 0; reached() = 4",
                "clear() = 3; reached() = 0; source(2, true) = -1; nodes(3); reached() = 0; source(2, false) = 0",
                "source(2, true) = 0; reached() = 4; source(2, true) = 1");
    }

    static void promise08() {
        doc.about("Promise 8", "A NODE's REST: what it was.");
        tell("nodes(3); arc(0, 1, 2) = 0; arc(1, 2, 2) = 1; rest(0, 4) = 0; rest(1, 2) = 0; good(2) = 1",
                "rest(1, 3) = 2; good(2) = 0; rest(1, 3) = 3; rest(1, 2) = 3; good(2) = 1; rest(1, 1000001) = -2",
                "good(2) = 1; rest(1, 2) = 2; node() = 3; rest(3, 7) = 0; rest(1, 2) = 2; rest(0, 4) = 4",
                "clear() = 4; rest(0, 1) = -1; nodes(2); rest(0, 1) = 0; rest(1, 1) = 0; rest(0, 0) = 1",
                "rest(2, 0) = -1",
                "node() = 2; node() = 3; rest(2, 0) = 0; rest(3, 0) = 0");
    }

    static void promise09() {
        doc.about("Promise 9", "No NODES any more: how many there were.");
        tell("clear() = 0; clear() = 0; nodes(1); clear() = 1; clear() = 0; nodes(10); node() = -4; clear() = 10",
                "distance(0) = -1; nodes(10); node() = -4; arc(9, 8, 1) = 0; source(9, true) = 0; reached() = 768",
                "clear() = 10; reached() = 0; ring() = -3; nodes(9); clear() = 9; nodes(10); reached() = 0",
                "source(9, true) = 0; reached() = 512; kth(9, 8, 0) = -3; clear() = 10; node() = 0");
    }

    // ---- trees

    static void promise10() {
        doc.about("Promise 10", "A NODE's DISTANCE.");
        tell("nodes(4); arc(0, 1, 3) = 0; arc(1, 2, 3) = 1; arc(0, 2, 7) = 2; distance(2) = -3; source(0, true) = 0",
                "distance(0) = 0; distance(1) = 3; distance(2) = 6; distance(3) = -3; arc(2, 3, 1) = 3",
                "distance(3) = 7",
                "drop(1) = 3; distance(2) = 7; distance(3) = 8; arc(1, 2, 0) = 4; distance(2) = 3; distance(3) = 4",
                "source(2, true) = 0; distance(3) = 1; distance(2) = 0; source(0, false) = 1; distance(1) = -3",
                "distance(3) = 1; rest(2, 9) = 0; share(3, 0, 1) = 1; distance(3) = 1",
                "clear() = 4; distance(3) = -1; nodes(2); distance(1) = -3; arc(0, 1, 9) = 0; distance(1) = -3",
                "source(0, true) = 0; distance(1) = 9; distance(0) = 0; distance(2) = -1");
    }

    static void promise11() {
        doc.about("Promise 11", "Its HOPS.");
        tell("nodes(4); arc(0, 1, 2) = 0; arc(1, 3, 2) = 1; arc(0, 3, 5) = 2; hops(3) = -3; source(0, true) = 0",
                "hops(0) = 0; hops(3) = 2; hops(2) = -3; arc(0, 3, 4) = 3; hops(3) = 1; drop(3) = 3; hops(3) = 2",
                "arc(1, 2, 0) = 4; arc(2, 3, 1) = 5; hops(3) = 3; distance(3) = 3; drop(1) = 4; hops(3) = 3",
                "drop(5) = 3; hops(3) = 1; distance(3) = 5; source(3, true) = 0; hops(3) = 0; source(3, false) = 1",
                "hops(3) = 1; clear() = 4; hops(3) = -1; nodes(4); hops(3) = -3; arc(0, 3, 1) = 0; hops(3) = -3",
                "source(0, true) = 0; hops(3) = 1; hops(0) = 0; hops(1) = -3");
    }

    static void promise12() {
        doc.about("Promise 12", "Its STEP.");
        tell("nodes(3); arc(1, 2, 1) = 0; arc(0, 2, 2) = 1; arc(0, 1, 1) = 2; step(2) = -3; source(0, true) = 0",
                // Both ways to 2 have 2: the one with one arc.
                "step(2) = 1; step(1) = 2; step(0) = -3; drop(1) = 2; step(2) = 0; arc(1, 2, 1) = 3; step(2) = 0",
                "drop(0) = 2; step(2) = 3; arc(0, 2, 2) = 4; step(2) = 4; source(1, true) = 0; step(2) = 3",
                "step(1) = -3",
                "source(1, false) = 1; step(1) = 2; source(0, false) = 1; step(1) = -3; step(2) = -3",
                "clear() = 3; step(2) = -1; nodes(3); arc(2, 1, 0) = 0; step(1) = -3; source(2, true) = 0",
                "step(1) = 0",
                "step(2) = -3; step(0) = -3; step(3) = -1; node() = 3; step(3) = -3");
    }

    static void promise13() {
        doc.about("Promise 13", "How many WAYS from SOURCES have its DISTANCE and HOPS.");
        tell("nodes(4); arc(0, 1, 1) = 0; arc(0, 2, 1) = 1; arc(1, 3, 1) = 2; arc(2, 3, 1) = 3; ways(3) = 0",
                "source(0, true) = 0; ways(3) = 2; ways(0) = 1; arc(0, 1, 1) = 4; ways(3) = 3; ways(1) = 2",
                // One arc with the same length: the others have more arcs.
                "arc(0, 3, 2) = 5; ways(3) = 1; drop(5) = 5; ways(3) = 3; drop(0) = 4; ways(3) = 2; drop(3) = 3",
                "ways(3) = 1; arc(2, 3, 0) = 6; ways(3) = 1; source(2, true) = 0; ways(3) = 1; ways(2) = 1",
                "arc(1, 3, 0) = 7; ways(3) = 1; source(1, true) = 0; ways(3) = 2",
                "clear() = 4; ways(3) = -1; nodes(4); ways(3) = 0; arc(0, 3, 1) = 0; arc(0, 3, 1) = 1; ways(3) = 0",
                "source(0, true) = 0; ways(3) = 2; ways(1) = 0; ways(0) = 1");
    }

    static void promise14() {
        doc.about("Promise 14", "ARC i, from 0, of its TREE WAY.");
        tell("nodes(4); arc(0, 1, 1) = 0; arc(1, 2, 1) = 1; arc(2, 3, 1) = 2; tree(3, 0) = -3; source(0, true) = 0",
                "tree(3, 1) = 1; tree(3, 2) = 2; tree(3, 3) = -1; tree(3, 0) = 0; arc(0, 2, 1) = 3; tree(3, 0) = 3",
                "tree(3, 1) = 2; tree(3, 2) = -1; tree(2, 0) = 3; drop(3) = 3; tree(2, 0) = 0",
                "tree(3, 0) = 0; tree(3, 2) = 2",
                "source(1, true) = 0; tree(3, 0) = 1; tree(3, 1) = 2; tree(3, 2) = -1; tree(1, 0) = -1",
                "drop(1) = 2; tree(3, 0) = -3; tree(2, 0) = -3; source(2, true) = 0; tree(2, 0) = -1; tree(3, 0) = 2",
                "clear() = 4; tree(3, 0) = -1; nodes(4); tree(3, 0) = -3; arc(3, 2, 5) = 0; source(3, true) = 0",
                "tree(2, 0) = 0; tree(2, 1) = -1; tree(3, 0) = -1; tree(0, 0) = -3");
    }

    static void promise15() {
        doc.about("Promise 15", "The NODES to which WAYS lead from SOURCES, as bits.");
        tell("reached() = 0; nodes(5); reached() = 0; source(1, true) = 0; reached() = 2; arc(1, 3, 0) = 0",
                "reached() = 10; arc(3, 4, 1000000) = 1; reached() = 26; arc(4, 1, 1) = 2; reached() = 26",
                "arc(0, 1, 1) = 3; reached() = 26; source(0, true) = 0; reached() = 27; drop(0) = 3; reached() = 3",
                "source(1, false) = 1; reached() = 3; drop(3) = 2; reached() = 1",
                "clear() = 5; reached() = 0; nodes(5); reached() = 0; arc(1, 3, 0) = 0; reached() = 0",
                "source(3, true) = 0; reached() = 8; source(1, true) = 0; reached() = 10");
    }

    // ---- searches

    static void promise16() {
        doc.about("Promise 16", "Whether RESTS are GOOD for a goal: 1 or 0.");
        tell("nodes(3); good(2) = 1; arc(0, 1, 3) = 0; arc(1, 2, 4) = 1; rest(0, 7) = 0; good(2) = 0; rest(1, 4) = 0",
                "good(1) = 0; good(2) = 1; arc(0, 2, 6) = 2; good(2) = 0; drop(2) = 2; good(2) = 1; arc(0, 2, 7) = 3",
                "good(2) = 1; rest(2, 1) = 0; good(2) = 0; rest(2, 0) = 1; good(2) = 1; rest(1, 5) = 4; good(2) = 0",
                "drop(1) = 2; good(2) = 1; source(0, true) = 0; share(0, 0, 9) = 1; good(2) = 1",
                "clear() = 3; good(2) = -1; nodes(3); good(2) = 1; good(0) = 1; arc(0, 1, 0) = 0; good(2) = 1",
                "rest(0, 1) = 0; good(2) = 0; good(0) = 0; rest(1, 1) = 0; good(2) = 1; good(1) = 0");
    }

    static void promise17() {
        doc.about("Promise 17", "LED from a to a goal: how many NODES were SETTLED.");
        tell("nodes(4); led(0, 3) = 1; arc(0, 1, 1) = 0; arc(0, 2, 2) = 1; arc(1, 3, 5) = 2; arc(2, 3, 3) = 3",
                "led(0, 3) = 4; led(0, 1) = 2; led(3, 0) = 1; led(2, 2) = 1",
                // 0, 2, 3; then 1 and 3 both have 5 with their rests, and 1 is the least node; then 1 has 6.
                "rest(1, 10) = 0; led(0, 3) = 3; rest(1, 4) = 10; led(0, 3) = 4; rest(1, 5) = 4; led(0, 3) = 3",
                // 0, 2, 1, 3; then 0, 2, 1 and no more.
                "drop(3) = 3; led(0, 3) = 4; drop(2) = 2; led(0, 3) = 3; arc(0, 3, 0) = 4; led(0, 3) = 2",
                "clear() = 4; led(0, 3) = -1; nodes(4); led(0, 3) = 1; arc(0, 1, 1) = 0; arc(0, 3, 2) = 1",
                "led(0, 3) = 3",
                "led(0, 0) = 1; led(0, 2) = 3");
    }

    static void promise18() {
        doc.about("Promise 18", "The goal's number at the end of it.");
        tell("nodes(4); ledTo(0, 3) = -3; arc(0, 1, 1) = 0; arc(1, 2, 1) = 1; arc(0, 2, 5) = 2; arc(2, 3, 1) = 3",
                "ledTo(0, 3) = 3; ledTo(0, 2) = 2; ledTo(3, 0) = -3; ledTo(3, 3) = 0",
                // 2 is settled with 5 ahead of 1, which has 11 with its rest; with 4 it comes first.
                "rest(1, 10) = 0; ledTo(0, 3) = 6; ledTo(0, 2) = 5; rest(1, 3) = 10; ledTo(0, 2) = 2",
                "ledTo(0, 3) = 3",
                "arc(0, 3, 2) = 4; ledTo(0, 3) = 2; drop(4) = 4; ledTo(0, 3) = 3; drop(2) = 3; rest(1, 1000000) = 3",
                "ledTo(0, 3) = 3; drop(0) = 2; ledTo(0, 3) = -3; ledTo(1, 3) = 2",
                "clear() = 4; ledTo(0, 3) = -1; nodes(4); ledTo(0, 3) = -3; arc(0, 3, 8) = 0; ledTo(0, 3) = 8",
                "arc(0, 1, 1) = 1; arc(1, 3, 1) = 2; ledTo(0, 3) = 2");
    }

    static void promise19() {
        doc.about("Promise 19", "FROM BOTH SIDES: how many NODES were SETTLED, by both together.");
        tell("nodes(4); both(0, 3) = 1; arc(0, 1, 2) = 0; arc(1, 2, 2) = 1; arc(2, 3, 2) = 2",
                // 0 by a, 3 by b, 1 by a: 2 has 4 and 2, and 4 and 2 are not below 6.
                "both(0, 3) = 3; both(3, 0) = 1; both(1, 1) = 0",
                // BEST is 5 by arc 3, which 2 and 2 are below; then 4 by arc 4, which they are not.
                "arc(0, 3, 5) = 3; both(0, 3) = 3; arc(0, 3, 4) = 4; both(0, 3) = 2; drop(4) = 4; both(0, 3) = 3",
                "drop(3) = 3; both(0, 3) = 3; drop(1) = 2; both(0, 3) = 3; drop(2) = 1; both(0, 3) = 2",
                "rest(1, 1000000) = 0; both(0, 3) = 2; drop(0) = 0; both(0, 3) = 1",
                "clear() = 4; both(0, 3) = -1; nodes(4); both(0, 3) = 1; arc(0, 3, 0) = 0; both(0, 3) = 1",
                "both(3, 0) = 1");
    }

    static void promise20() {
        doc.about("Promise 20", "BEST at its end.");
        tell("nodes(4); bothTo(0, 3) = -3; bothTo(2, 2) = 0; arc(0, 1, 2) = 0; arc(1, 3, 2) = 1; bothTo(0, 3) = 4",
                "bothTo(3, 0) = -3; arc(0, 2, 1) = 2; arc(2, 3, 2) = 3; bothTo(0, 3) = 3; drop(2) = 3",
                "bothTo(0, 3) = 4",
                "rest(1, 1000000) = 0; bothTo(0, 3) = 4; drop(1) = 2; bothTo(0, 3) = -3; arc(0, 3, 1000000) = 4",
                "bothTo(0, 3) = 1000000; arc(3, 0, 1) = 5; bothTo(3, 0) = 1; bothTo(0, 3) = 1000000",
                "clear() = 4; bothTo(0, 3) = -1; nodes(4); bothTo(0, 3) = -3; arc(3, 0, 7) = 0; bothTo(0, 3) = -3",
                "bothTo(3, 0) = 7; bothTo(3, 3) = 0");
    }

    // ---- one after the other

    static void promise21() {
        doc.about("Promise 21", "The LENGTH of WAY k, from 0, in THE ROW of a, b.");
        tell("nodes(4); kth(0, 3, 0) = -3; arc(0, 1, 1) = 0; arc(1, 3, 1) = 1; arc(0, 2, 2) = 2; arc(2, 3, 2) = 3",
                "kth(0, 3, 0) = 2; kth(0, 3, 1) = 4; kth(0, 3, 2) = -3; arc(1, 2, 0) = 4; kth(0, 3, 1) = 3",
                "kth(0, 3, 2) = 4; kth(0, 3, 3) = -3; arc(0, 3, 3) = 5; kth(0, 3, 0) = 2; kth(0, 3, 1) = 3",
                "kth(0, 3, 2) = 3; kth(0, 3, 3) = 4; kth(0, 3, 4) = -3; kth(0, 3, 0) = 2; drop(1) = 5",
                "kth(0, 3, 0) = 3",
                "kth(0, 3, 1) = 3; kth(0, 3, 2) = 4; kth(0, 3, 3) = -3; drop(5) = 4; drop(0) = 3; kth(0, 3, 0) = 4",
                "kth(0, 3, 1) = -3; kth(3, 0, 0) = -3; kth(1, 1, 0) = 0; kth(1, 3, 0) = 2; kth(0, 3, 0) = 4",
                "clear() = 4; kth(0, 3, 0) = -1; nodes(4); kth(0, 3, 0) = -3; arc(0, 3, 6) = 0; kth(0, 3, 0) = 6",
                "kth(0, 3, 1) = -3; kth(0, 3, 29) = -3; kth(0, 3, 30) = -2");
    }

    static void promise22() {
        doc.about("Promise 22", "ARC i, from 0, of it.");
        tell("nodes(4); kthArc(0, 3, 0, 0) = -3; arc(0, 1, 1) = 0; arc(1, 3, 1) = 1; arc(0, 3, 2) = 2",
                "kthArc(0, 3, 0, 0) = 2; kthArc(0, 3, 0, 1) = -1; kthArc(0, 3, 1, 0) = 0; kthArc(0, 3, 1, 1) = 1",
                "kthArc(0, 3, 1, 2) = -1; kthArc(0, 3, 2, 0) = -3; arc(0, 3, 1) = 3; kthArc(0, 3, 0, 0) = 3",
                "kthArc(0, 3, 2, 1) = 1; kthArc(0, 3, 1, 0) = 2; drop(2) = 3; kthArc(0, 3, 1, 0) = 0",
                "kthArc(0, 3, 1, 1) = 1; kthArc(0, 3, 2, 0) = -3; arc(1, 3, 1) = 4; kthArc(0, 3, 1, 1) = 1",
                "kthArc(0, 3, 2, 1) = 4; drop(1) = 3; kthArc(0, 3, 1, 1) = 4; kthArc(0, 3, 2, 1) = -3",
                "kthArc(0, 3, 0, 0) = 3",
                "clear() = 4; kthArc(0, 3, 0, 0) = -1; nodes(4); kthArc(0, 3, 0, 0) = -3; arc(2, 3, 1) = 0",
                "arc(0, 2, 1) = 1; kthArc(0, 3, 0, 0) = 1; kthArc(0, 3, 0, 1) = 0; kthArc(0, 3, 0, 2) = -1",
                "kthArc(0, 0, 0, 0) = -1; kthArc(0, 3, 1, 0) = -3");
    }

    /** A long row, then a short one, then the long one again with one arc less. */
    static void promise22LongRow() {
        doc.about("Promise 22", "ARC i, from 0, of it.");
        List<String> story = new ArrayList<>();
        story.add("nodes(4)");
        for (int e = 0; e < 36; e++) {
            // Twelve arcs from 0 to 1, from 1 to 2 and from 2 to 3, with the weights 0 to 11.
            story.add("arc(" + e / 12 + ", " + (e / 12 + 1) + ", " + e % 12 + ") = " + e);
        }
        // One way has 0, three have 1, six have 2, ten have 3, and fifteen have 4: ways 20 to 34.
        story.add("kth(0, 3, 0) = 0; kth(0, 3, 1) = 1; kth(0, 3, 3) = 1; kth(0, 3, 4) = 2; kth(0, 3, 9) = 2");
        story.add("kth(0, 3, 10) = 3; kth(0, 3, 19) = 3; kth(0, 3, 20) = 4; kth(0, 3, 29) = 4");
        // Those with 1: 0 12 25, 0 13 24, 1 12 24.
        story.add("kthArc(0, 3, 1, 2) = 25; kthArc(0, 3, 2, 1) = 13; kthArc(0, 3, 3, 0) = 1; kth(1, 2, 11) = 11");
        story.add("kth(1, 2, 12) = -3; kthArc(1, 2, 11, 0) = 23; kth(0, 3, 29) = 4");
        // Those with 4 begin with 0 five times, with 1 four times, then with 2: way 29 is 2 12 26.
        story.add("kthArc(0, 3, 20, 2) = 28; kthArc(0, 3, 29, 0) = 2; kthArc(0, 3, 29, 2) = 26");
        // Without arc 0 the least has 1, three have 2, six have 3.
        story.add("drop(0) = 35; kth(0, 3, 0) = 1; kthArc(0, 3, 0, 0) = 1; kth(0, 3, 3) = 2; kth(0, 3, 4) = 3");
        story.add("clear() = 4; nodes(2); arc(0, 1, 3) = 0; kth(0, 1, 0) = 3; kthArc(0, 1, 0, 0) = 0");
        story.add("kth(0, 1, 1) = -3");
        tell(story.toArray(new String[0]));
    }

    // ---- others

    static void promise23() {
        doc.about("Promise 23", "The greatest WIDTH of a WAY from a to b (two NODES).");
        tell("nodes(3); widest(0, 2) = -3; arc(0, 1, 5) = 0; arc(1, 2, 3) = 1; widest(0, 2) = 3; arc(0, 2, 4) = 2",
                "widest(0, 2) = 4; arc(1, 2, 9) = 3; widest(0, 2) = 5; drop(0) = 3; widest(0, 2) = 4; drop(2) = 2",
                "widest(0, 2) = -3; widest(1, 2) = 9; widest(2, 1) = -3; drop(3) = 1; widest(1, 2) = 3",
                "clear() = 3; widest(1, 2) = -1; nodes(3); widest(1, 2) = -3; arc(2, 0, 0) = 0; widest(2, 0) = 0",
                "widest(0, 2) = -3; arc(0, 1, 1) = 1; widest(2, 1) = 0; widest(0, 1) = 1; widest(0, 3) = -1",
                "node() = 3",
                "widest(0, 3) = -3");
    }

    static void promise24() {
        doc.about("Promise 24", "The greatest TRUST of a WAY from a to b, in lowest terms: part 0 above, 1 below");
        tell("nodes(3); trust(0, 2, 0) = -3; arc(0, 1, 1) = 0; arc(1, 2, 1) = 1; trust(0, 2, 0) = 1",
                "trust(0, 2, 1) = 1",
                "share(0, 3, 4) = 1; trust(0, 2, 0) = 3; trust(0, 2, 1) = 4; share(1, 2, 3) = 1; trust(0, 2, 0) = 1",
                "trust(0, 2, 1) = 2; arc(0, 2, 1) = 2; trust(0, 2, 0) = 1; trust(0, 2, 1) = 1; share(2, 4, 9) = 1",
                "trust(0, 2, 0) = 1; trust(0, 2, 1) = 2; share(2, 5, 9) = 1; trust(0, 2, 0) = 5; trust(0, 2, 1) = 9",
                "drop(2) = 2; trust(0, 2, 0) = 1; trust(0, 2, 1) = 2; share(1, 0, 3) = 1; trust(0, 2, 0) = 0",
                "trust(0, 2, 1) = 1; trust(0, 1, 0) = 3; drop(1) = 1; trust(0, 2, 0) = -3; trust(0, 2, 1) = -3",
                "clear() = 3; trust(0, 2, 1) = -1; nodes(3); trust(0, 1, 0) = -3; arc(0, 1, 1) = 0",
                "trust(0, 1, 0) = 1",
                "trust(0, 1, 1) = 1; trust(0, 2, 0) = -3; trust(1, 0, 1) = -3; trust(0, 3, 1) = -1; node() = 3",
                "trust(0, 3, 1) = -3");
    }

    static void promise25() {
        doc.about("Promise 25", "The LENGTH of THE RING.");
        tell("ring() = -3; nodes(4); ring() = -3; arc(0, 1, 2) = 0; arc(1, 2, 2) = 1; ring() = -3; arc(2, 0, 2) = 2",
                "ring() = 6; arc(2, 3, 0) = 3; ring() = 6; arc(3, 1, 1) = 4; ring() = 3; arc(3, 2, 3) = 5",
                "ring() = 3",
                "drop(4) = 5; ring() = 3; drop(5) = 4; ring() = 6; drop(0) = 3; ring() = -3; arc(0, 1, 1000000) = 6",
                "ring() = 1000004; clear() = 4; ring() = -3; nodes(2); ring() = -3; arc(0, 1, 0) = 0; ring() = -3",
                "arc(1, 0, 0) = 1; ring() = 0; drop(0) = 1; ring() = -3");
    }

    static void promise26() {
        doc.about("Promise 26", "ARC i, from 0, of THE RING.");
        tell("ringArc(0) = -3; nodes(4); arc(0, 1, 2) = 0; arc(1, 2, 2) = 1; ringArc(0) = -3; arc(2, 0, 2) = 2",
                "ringArc(0) = 0; ringArc(1) = 1; ringArc(2) = 2; ringArc(3) = -1",
                "arc(2, 3, 0) = 3; arc(3, 1, 1) = 4; ringArc(0) = 1; ringArc(1) = 3; ringArc(2) = 4; ringArc(3) = -1",
                // Of the same length, and with fewer arcs.
                "arc(3, 2, 3) = 5; ringArc(0) = 3; ringArc(1) = 5; ringArc(2) = -1; drop(4) = 5; ringArc(0) = 3",
                "drop(5) = 4; ringArc(0) = 0; ringArc(2) = 2; drop(0) = 3; ringArc(0) = -3",
                // 0 -> 1 is now arc 6: told from arc 1 on.
                "arc(0, 1, 2) = 6; ringArc(0) = 1; ringArc(1) = 2; ringArc(2) = 6; ringArc(3) = -1",
                "clear() = 4; ringArc(0) = -3; nodes(3); ringArc(0) = -3; arc(2, 1, 1) = 0; arc(1, 2, 1) = 1",
                "ringArc(0) = 0; ringArc(1) = 1; ringArc(2) = -1");
    }

    static void promise27() {
        doc.about("Promise 27", "The ARC without which the least LENGTH from a to b is greatest");
        tell("nodes(4); missed(0, 3) = -3; arc(0, 1, 1) = 0; arc(1, 3, 1) = 1; missed(0, 3) = 0",
                // Without 0 there is 3, without 1 none at all; then without 1 there is 4.
                "arc(0, 1, 2) = 2; missed(0, 3) = 1; arc(1, 3, 3) = 3; missed(0, 3) = 1; arc(0, 3, 2) = 4",
                "missed(0, 3) = -3; drop(4) = 4; missed(0, 3) = 1; drop(1) = 3; missed(0, 3) = 3; drop(2) = 2",
                "missed(0, 3) = 0; drop(3) = 1; missed(0, 3) = -3; missed(0, 1) = 0; missed(3, 0) = -3",
                "clear() = 4; missed(0, 3) = -1; nodes(4); missed(0, 3) = -3; arc(0, 3, 0) = 0; missed(0, 3) = 0",
                "arc(0, 3, 0) = 1; missed(0, 3) = -3; drop(0) = 1; missed(0, 3) = 1");
    }
}
