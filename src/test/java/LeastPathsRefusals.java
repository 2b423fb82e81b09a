import java.util.ArrayList;
import java.util.List;
import java.util.function.BiConsumer;
import java.util.function.IntConsumer;
import java.util.function.Supplier;
import java.util.function.ToIntFunction;

/**
 * The sentence on refusals: each refusal of each call is made in several graphs, and then all that later
 * calls can show is compared with what a twin shows that was not asked; and of two refusals that fit, the
 * first is answered.
 */
public final class LeastPathsRefusals {
    private static final int LOW = Sentences.LOW;
    private static final int HIGH = Sentences.HIGH;

    private static Sentences doc;

    public static void main(String[] args) throws Exception {
        doc = new Sentences();
        doc.runAll(LeastPathsRefusals.class, "Terms", "Promise 4", "Promise 5", "Promise 8", "Promise 14",
                "Promise 21", "Promise 22", "Promise 23", "Promise 24", "Promise 26", "Promise 27");
    }

    /** A call that is refused. */
    private record Refused(String call, int want, ToIntFunction<LeastPaths> asked) { }

    /** A graph, how many nodes it has, how many arcs were made, and one of these that was dropped (or -1). */
    private record Place(String name, int nodes, int arcs, int dropped, Supplier<LeastPaths> made) { }

    // ---- the graphs

    /** Five nodes, 4 with no way to it; arc 3 is dropped. */
    private static LeastPaths village() {
        LeastPaths x = doc.graph(5, 0, 1, 4, 1, 2, 1, 0, 2, 6, 2, 3, 1, 2, 3, 2, 3, 0, 2, 4, 0, 9, 1, 3, 3);
        x.drop(3);
        x.source(0, true);
        x.source(3, true);
        x.rest(0, 3);
        x.rest(1, 1000000);
        x.share(0, 2, 3);
        x.share(7, 0, 5);
        return x;
    }

    /** The full graph, with ties, rings, and a few dropped arcs, of which 39 is one. */
    private static LeastPaths city() {
        LeastPaths x = doc.graph(10);
        for (int e = 0; e < 40; e++) {
            x.arc(e % 10, (e * 3 + e / 10 + 1) % 10 == e % 10 ? (e + 5) % 10 : (e * 3 + e / 10 + 1) % 10, e % 4);
        }
        for (int e = 0; e < 40; e += 13) {
            x.drop(e);
            x.share(e + 1 < 40 ? e + 1 : 1, 5, 9);
        }
        x.source(2, true);
        x.source(9, true);
        x.rest(9, 1000000);
        x.rest(4, 1);
        return x;
    }

    private static LeastPaths allDropped() {
        LeastPaths x = doc.graph(3, 0, 1, 1, 1, 2, 1, 2, 0, 1);
        x.drop(0);
        x.drop(1);
        x.drop(2);
        x.source(1, true);
        return x;
    }

    private static LeastPaths clearedVillage() {
        LeastPaths x = city();
        x.clear();
        doc.grow(x, 2, 0, 1, 7);
        x.source(1, true);
        return x;
    }

    private static List<Place> places() {
        return List.of(
                new Place("the empty graph", 0, 0, -1, () -> doc.graph(0)),
                new Place("one node", 1, 0, -1, () -> doc.graph(1)),
                new Place("no arcs", 3, 0, -1, () -> doc.graph(3)),
                new Place("all arcs dropped", 3, 3, 1, LeastPathsRefusals::allDropped),
                new Place("no sources", 3, 3, -1, () -> doc.graph(3, 0, 1, 1, 1, 2, 1, 2, 0, 1)),
                new Place("five nodes", 5, 8, 3, LeastPathsRefusals::village),
                new Place("a new graph after clear()", 2, 1, -1, LeastPathsRefusals::clearedVillage),
                new Place("the full graph", 10, 40, 39, LeastPathsRefusals::city));
    }

    // ---- the refusals

    private static List<Refused> refusals(Place at) {
        List<Refused> all = new ArrayList<>();
        for (int v : new int[] {LOW, -1, at.nodes, 64, HIGH}) {
            noSuchNode(all, v);
        }
        for (int v : new int[] {LOW, -1, at.arcs, 64, HIGH, at.dropped}) {
            all.add(new Refused("share(" + v + ", 1, 2)", -1, x -> x.share(v, 1, 2)));
            all.add(new Refused("drop(" + v + ")", -1, x -> x.drop(v)));
        }
        if (at.nodes == 10) {
            all.add(new Refused("node()", -4, LeastPaths::node));
        }
        if (at.nodes > 0) {
            oneNode(all);
        }
        if (at.nodes > 1) {
            twoNodes(all, at);
        }
        return all;
    }

    private static void noSuchNode(List<Refused> all, int v) {
        all.add(new Refused("arc(" + v + ", 0, 1)", -1, x -> x.arc(v, 0, 1)));
        all.add(new Refused("arc(0, " + v + ", 1)", -1, x -> x.arc(0, v, 1)));
        all.add(new Refused("source(" + v + ", true)", -1, x -> x.source(v, true)));
        all.add(new Refused("source(" + v + ", false)", -1, x -> x.source(v, false)));
        all.add(new Refused("rest(" + v + ", 5)", -1, x -> x.rest(v, 5)));
        all.add(new Refused("distance(" + v + ")", -1, x -> x.distance(v)));
        all.add(new Refused("hops(" + v + ")", -1, x -> x.hops(v)));
        all.add(new Refused("step(" + v + ")", -1, x -> x.step(v)));
        all.add(new Refused("ways(" + v + ")", -1, x -> x.ways(v)));
        all.add(new Refused("tree(" + v + ", 0)", -1, x -> x.tree(v, 0)));
        all.add(new Refused("good(" + v + ")", -1, x -> x.good(v)));
        all.add(new Refused("led(0, " + v + ")", -1, x -> x.led(0, v)));
        all.add(new Refused("ledTo(" + v + ", 0)", -1, x -> x.ledTo(v, 0)));
        all.add(new Refused("both(0, " + v + ")", -1, x -> x.both(0, v)));
        all.add(new Refused("bothTo(" + v + ", 0)", -1, x -> x.bothTo(v, 0)));
        all.add(new Refused("kth(0, " + v + ", 0)", -1, x -> x.kth(0, v, 0)));
        all.add(new Refused("kthArc(" + v + ", 0, 0, 0)", -1, x -> x.kthArc(v, 0, 0, 0)));
        all.add(new Refused("widest(0, " + v + ")", -1, x -> x.widest(0, v)));
        all.add(new Refused("trust(" + v + ", 0, 0)", -1, x -> x.trust(v, 0, 0)));
        all.add(new Refused("missed(0, " + v + ")", -1, x -> x.missed(0, v)));
    }

    private static void oneNode(List<Refused> all) {
        all.add(new Refused("arc(0, 0, 1)", -1, x -> x.arc(0, 0, 1)));
        all.add(new Refused("rest(0, -1)", -2, x -> x.rest(0, -1)));
        all.add(new Refused("rest(0, 1000001)", -2, x -> x.rest(0, 1000001)));
        all.add(new Refused("widest(0, 0)", -1, x -> x.widest(0, 0)));
        all.add(new Refused("trust(0, 0, 0)", -1, x -> x.trust(0, 0, 0)));
        all.add(new Refused("missed(0, 0)", -1, x -> x.missed(0, 0)));
        all.add(new Refused("kth(0, 0, 30)", -2, x -> x.kth(0, 0, 30)));
        all.add(new Refused("kth(0, 0, 1)", -3, x -> x.kth(0, 0, 1)));
        all.add(new Refused("kthArc(0, 0, 0, 0)", -1, x -> x.kthArc(0, 0, 0, 0)));
    }

    private static void twoNodes(List<Refused> all, Place at) {
        for (int v : new int[] {LOW, -1, 1000001, HIGH}) {
            all.add(new Refused("arc(0, 1, " + v + ")", -2, x -> x.arc(0, 1, v)));
            all.add(new Refused("rest(1, " + v + ")", -2, x -> x.rest(1, v)));
            all.add(new Refused("kth(0, 1, " + v + ")", -2, x -> x.kth(0, 1, v)));
            all.add(new Refused("kthArc(0, 1, " + v + ", 0)", -2, x -> x.kthArc(0, 1, v, 0)));
            all.add(new Refused("trust(0, 1, " + v + ")", -2, x -> x.trust(0, 1, v)));
        }
        if (at.arcs == 40) {
            all.add(new Refused("arc(0, 1, 0)", -4, x -> x.arc(0, 1, 0)));
        }
        if (at.arcs > 0 && !at.name.equals("all arcs dropped")) {
            int live = at.arcs == 40 ? 38 : 0;
            all.add(new Refused("share(live, 1, 0)", -2, x -> x.share(live, 1, 0)));
            all.add(new Refused("share(live, 0, 10)", -2, x -> x.share(live, 0, 10)));
            all.add(new Refused("share(live, -1, 9)", -2, x -> x.share(live, -1, 9)));
            all.add(new Refused("share(live, 4, 3)", -2, x -> x.share(live, 4, 3)));
        }
    }

    // ---- what later calls show

    private static void pairs(Place at, BiConsumer<Integer, Integer> each) {
        for (int a = 0; a < at.nodes; a++) {
            for (int b = 0; b < at.nodes; b++) {
                each.accept(a, b);
            }
        }
    }

    private static final int PAGES = 6;

    /** One page of what later calls show; it stays, with the making of the graph, below 512 calls. */
    private static String page(Place at, LeastPaths x, int page) {
        StringBuilder all = new StringBuilder();
        IntConsumer tell = v -> all.append(v).append(' ');
        switch (page) {
            case 0 -> trees(at, x, tell);
            case 1 -> pairs(at, (a, b) -> {
                tell.accept(x.led(a, b));
                tell.accept(x.ledTo(a, b));
                tell.accept(x.both(a, b));
                tell.accept(x.bothTo(a, b));
            });
            case 2 -> pairs(at, (a, b) -> {
                tell.accept(x.kth(a, b, 0));
                tell.accept(x.kth(a, b, 1));
                tell.accept(x.kth(a, b, 29));
            });
            case 3 -> pairs(at, (a, b) -> {
                tell.accept(x.kthArc(a, b, 0, 0));
                tell.accept(x.kthArc(a, b, 1, 1));
            });
            case 4 -> pairs(at, (a, b) -> {
                tell.accept(x.widest(a, b));
                tell.accept(x.trust(a, b, 0));
                tell.accept(x.trust(a, b, 1));
                tell.accept(x.missed(a, b));
            });
            default -> changes(at, x, tell);
        }
        return all.toString();
    }

    private static void trees(Place at, LeastPaths x, IntConsumer tell) {
        tell.accept(x.heap());
        tell.accept(x.reached());
        for (int n = 0; n < at.nodes; n++) {
            tell.accept(x.distance(n));
            tell.accept(x.hops(n));
            tell.accept(x.step(n));
            tell.accept(x.ways(n));
            tell.accept(x.tree(n, 0));
            tell.accept(x.tree(n, 1));
            tell.accept(x.good(n));
        }
        tell.accept(x.ring());
        for (int i = 0; i < 11; i++) {
            tell.accept(x.ringArc(i));
        }
    }

    /** What is only seen when it is changed: sources, rests, arcs and how much room is left. */
    private static void changes(Place at, LeastPaths x, IntConsumer tell) {
        for (int n = 0; n < at.nodes; n++) {
            tell.accept(x.source(n, false));
            tell.accept(x.rest(n, 0));
        }
        tell.accept(x.arc(0, 1, 1));
        for (int e = 0; e < 40; e++) {
            tell.accept(x.share(e, 1, 2));
            tell.accept(x.drop(e));
        }
        for (int more = 0; more < 11; more++) {
            tell.accept(x.node());
        }
        for (int more = 0; more < 41; more++) {
            tell.accept(x.arc(0, 1, 1));
        }
        tell.accept(x.clear());
    }

    static void changeNothing() {
        doc.about("Terms", "REFUSALS change nothing");
        for (Place at : places()) {
            String[] dues = new String[PAGES];
            for (int page = 0; page < PAGES; page++) {
                dues[page] = page(at, at.made.get(), page);
            }
            for (Refused refused : refusals(at)) {
                for (int page = 0; page < PAGES; page++) {
                    LeastPaths x = at.made.get();
                    String call = at.name + ": " + refused.call;
                    doc.due(call, refused.asked.applyAsInt(x), refused.want);
                    doc.due("page " + page + " after " + call, page(at, x, page), dues[page]);
                }
            }
        }
    }

    /** All of them one after the other, twice, on one object. */
    static void againAndAgain() {
        doc.about("Terms", "REFUSALS change nothing and answer");
        for (Place at : places()) {
            LeastPaths x = at.made.get();
            for (int round = 1; round <= 2; round++) {
                for (Refused refused : refusals(at)) {
                    String call = at.name + ", round " + round + ": " + refused.call;
                    doc.due(call, refused.asked.applyAsInt(x), refused.want);
                }
            }
            doc.due(at.name + ", after all of them", page(at, x, 0), page(at, at.made.get(), 0));
        }
    }

    // ---- the first that fits

    static void theirNumbers() {
        doc.about("Terms",
                "-1 there is no such NODE, ARC, place, -2 outside its bounds, -3 there is none, -4 there is no room.");
        LeastPaths x = doc.full(1);
        doc.due("no such node: distance(10)", x.distance(10), -1);
        doc.due("no such arc: drop(40)", x.drop(40), -1);
        doc.due("no such place: kthArc(0, 9, 0, 9)", x.kthArc(0, 9, 0, 9), -1);
        doc.due("outside its bounds: kth(0, 9, 30)", x.kth(0, 9, 30), -2);
        doc.due("there is none: ring()", x.ring(), -3);
        doc.due("there is no room: node()", x.node(), -4);
        doc.due("there is no room: arc(0, 1, 1)", x.arc(0, 1, 1), -4);
    }

    static void theFirstThatFits() {
        doc.about("Terms", "the first that fits");
        LeastPaths x = doc.full(1);
        doc.due("-1 before -2: rest(10, -1)", x.rest(10, -1), -1);
        doc.due("-1 before -3: widest(4, 4)", x.widest(4, 4), -1);
        doc.due("-1 before -4: arc(4, 4, 1)", x.arc(4, 4, 1), -1);
        doc.due("-2 before -3: kth(9, 0, 30)", x.kth(9, 0, 30), -2);
        doc.due("-2 before -4: arc(0, 1, -1)", x.arc(0, 1, -1), -2);
        doc.due("-2 before the later -1: kthArc(0, 9, 30, 9)", x.kthArc(0, 9, 30, 9), -2);
        doc.due("-3 before the later -1: ringArc(-1)", x.ringArc(-1), -3);
        doc.due("-3 before the later -1: tree(0, -1)", x.tree(0, -1), -3);
    }

    static void firstOfArc() {
        doc.about("Promise 4", "-1 no such NODES, both are the same, -2, -4.");
        LeastPaths empty = doc.graph(0);
        doc.due("no nodes, the same, the weight", empty.arc(0, 0, -1), -1);
        LeastPaths x = doc.graph(2);
        LeastPaths full = doc.full(1);
        for (int weight : new int[] {LOW, -1, 1000001, HIGH}) {
            doc.due("no from, the weight", x.arc(2, 0, weight), -1);
            doc.due("no to, the weight", x.arc(0, -1, weight), -1);
            doc.due("neither, the same, the weight", x.arc(HIGH, HIGH, weight), -1);
            doc.due("the same, the weight", x.arc(1, 1, weight), -1);
            doc.due("no from, the weight, no room", full.arc(10, 0, weight), -1);
            doc.due("no to, the weight, no room", full.arc(0, LOW, weight), -1);
            doc.due("the same, the weight, no room", full.arc(9, 9, weight), -1);
            doc.due("the weight, no room", full.arc(0, 1, weight), -2);
        }
        doc.due("no from, no room", full.arc(-1, 0, 1), -1);
        doc.due("no to, no room", full.arc(0, 10, 1), -1);
        doc.due("the same, no room", full.arc(3, 3, 1), -1);
        doc.due("no room alone", full.arc(3, 4, 1), -4);
    }

    static void firstOfShare() {
        doc.about("Promise 5", "-1, -2 below is not 1 .. 9, above is not 0 .. below.");
        LeastPaths x = doc.graph(2, 0, 1, 1, 0, 1, 1);
        x.drop(1);
        for (int e : new int[] {LOW, -1, 1, 2, 40, 64, HIGH}) {
            doc.due("no arc " + e + ", below", x.share(e, 0, 0), -1);
            doc.due("no arc " + e + ", above", x.share(e, 2, 1), -1);
            doc.due("no arc " + e + ", both", x.share(e, LOW, HIGH), -1);
        }
        doc.due("below and above", x.share(0, 11, 10), -2);
        doc.due("below and above, the least", x.share(0, LOW, LOW), -2);
        doc.due("below and above, the greatest", x.share(0, HIGH, HIGH), -2);
    }

    static void firstOfRest() {
        doc.about("Promise 8", "-1, -2.");
        LeastPaths x = doc.graph(2);
        for (int n : new int[] {LOW, -1, 2, 10, HIGH}) {
            for (int v : new int[] {LOW, -1, 1000001, HIGH}) {
                doc.due("rest(" + n + ", " + v + ")", x.rest(n, v), -1);
                doc.due("rest(" + n + ", " + v + ") of the empty graph", doc.graph(0).rest(n, v), -1);
            }
        }
    }

    static void firstOfTree() {
        doc.about("Promise 14", "-1 (NODE), -3 no WAY leads to it, -1 it has no such ARC.");
        LeastPaths x = doc.graph(3, 0, 1, 1);
        for (int i : new int[] {LOW, -1, 0, 1, HIGH}) {
            doc.due("no node, without sources", x.tree(3, i), -1);
            doc.due("no way, without sources, place " + i, x.tree(1, i), -3);
        }
        x.source(0, true);
        for (int i : new int[] {LOW, -1, 0, 1, HIGH}) {
            doc.due("no node, place " + i, x.tree(-1, i), -1);
            doc.due("no way, place " + i, x.tree(2, i), -3);
            doc.due("a way, place " + i, x.tree(1, i), i == 0 ? 0 : -1);
        }
    }

    static void firstOfKth() {
        doc.about("Promise 21", "-1 (NODES), -2 k is not 0 .. 29, -3.");
        LeastPaths x = doc.graph(3, 0, 1, 1);
        for (int k : new int[] {LOW, -1, 30, HIGH}) {
            doc.due("no a, k " + k, x.kth(3, 0, k), -1);
            doc.due("no b, k " + k, x.kth(0, -1, k), -1);
            doc.due("no way, k " + k, x.kth(0, 2, k), -2);
            doc.due("a way, k " + k, x.kth(0, 1, k), -2);
            doc.due("the same, k " + k, x.kth(2, 2, k), -2);
        }
        doc.due("no node, no way", x.kth(2, 3, 29), -1);
        doc.due("no way", x.kth(0, 2, 29), -3);
    }

    static void firstOfKthArc() {
        doc.about("Promise 22", "-1, -2, -3 likewise, -1 it has no such ARC.");
        LeastPaths x = doc.graph(3, 0, 1, 1);
        for (int i : new int[] {LOW, -1, 0, 1, HIGH}) {
            for (int k : new int[] {LOW, -1, 30, HIGH}) {
                doc.due("no a, k " + k + ", place " + i, x.kthArc(LOW, 0, k, i), -1);
                doc.due("no b, k " + k + ", place " + i, x.kthArc(0, 3, k, i), -1);
                doc.due("no way, k " + k + ", place " + i, x.kthArc(0, 2, k, i), -2);
                doc.due("a way, k " + k + ", place " + i, x.kthArc(0, 1, k, i), -2);
            }
            doc.due("no node, place " + i, x.kthArc(3, 3, 0, i), -1);
            doc.due("no way, place " + i, x.kthArc(0, 2, 0, i), -3);
            doc.due("no way 1, place " + i, x.kthArc(0, 1, 1, i), -3);
            doc.due("the same, no way 1, place " + i, x.kthArc(2, 2, 1, i), -3);
            doc.due("way 0, place " + i, x.kthArc(0, 1, 0, i), i == 0 ? 0 : -1);
            doc.due("the same, way 0, place " + i, x.kthArc(2, 2, 0, i), -1);
        }
    }

    static void firstOfWidest() {
        doc.about("Promise 23", "-1 (also for the same), -3.");
        LeastPaths x = doc.graph(2);
        doc.due("the same, no way", x.widest(1, 1), -1);
        doc.due("no node, no way", x.widest(1, 2), -1);
        doc.due("no way", x.widest(1, 0), -3);
    }

    static void firstOfTrust() {
        doc.about("Promise 24", "-1 (also for the same), -2 another part, -3 there is no WAY.");
        LeastPaths x = doc.graph(3, 0, 1, 1);
        for (int part : new int[] {LOW, -1, 2, HIGH}) {
            doc.due("no a, part " + part, x.trust(3, 0, part), -1);
            doc.due("no b, part " + part, x.trust(0, -1, part), -1);
            doc.due("the same, part " + part, x.trust(1, 1, part), -1);
            doc.due("no way, part " + part, x.trust(0, 2, part), -2);
            doc.due("a way, part " + part, x.trust(0, 1, part), -2);
        }
        doc.due("the same", x.trust(2, 2, 0), -1);
        doc.due("no way", x.trust(0, 2, 0), -3);
    }

    static void firstOfRingArc() {
        doc.about("Promise 26", "-3, -1.");
        LeastPaths x = doc.graph(2, 0, 1, 1);
        for (int i : new int[] {LOW, -1, 0, 2, 40, HIGH}) {
            doc.due("no ring, place " + i, x.ringArc(i), -3);
        }
        x.arc(1, 0, 1);
        for (int i : new int[] {LOW, -1, 2, 40, HIGH}) {
            doc.due("a ring, place " + i, x.ringArc(i), -1);
        }
    }

    static void firstOfMissed() {
        doc.about("Promise 27", "-1 (also for the same), -3 there is no WAY, or no ARC changes it.");
        LeastPaths x = doc.graph(3, 0, 1, 1, 0, 1, 1);
        doc.due("the same, no way", x.missed(2, 2), -1);
        doc.due("no node, no way", x.missed(2, 3), -1);
        doc.due("no way", x.missed(0, 2), -3);
        doc.due("no arc changes it", x.missed(0, 1), -3);
    }
}
