import java.util.stream.IntStream;

/**
 * The sentences of 'Promise 1' to 'Promise 27' that name a bound or a case at the edge, a test for each. The
 * refusals' order, and that they change nothing, stand in LeastPathsRefusals.
 */
public final class LeastPathsEdges {
    private static final int LOW = Sentences.LOW;
    private static final int HIGH = Sentences.HIGH;

    private static Sentences doc;

    public static void main(String[] args) throws Exception {
        doc = new Sentences();
        String[] promises = IntStream.rangeClosed(1, 27).mapToObj(i -> "Promise " + i).toArray(String[]::new);
        doc.runAll(LeastPathsEdges.class, promises);
    }

    /** A call with one number that is looked at. */
    private interface Asked {
        int answer(LeastPaths x, int v);
    }

    /** Gives a call, as its node, numbers outside the nodes that there are: none, one, nine, ten. */
    private static void noSuchNode(String call, Asked asked) {
        for (int nodes : new int[] {0, 1, 9, 10}) {
            LeastPaths x = doc.graph(nodes);
            for (int v : Sentences.outside(nodes)) {
                doc.due(call + " with " + v + " and " + nodes + " nodes", asked.answer(x, v), -1);
            }
        }
    }

    /** Gives a call, as its node, the last one that there is, in graphs without arcs and sources. */
    private static void lastNode(String call, int want, Asked asked) {
        for (int nodes : new int[] {2, 9, 10}) {
            LeastPaths x = doc.graph(nodes);
            doc.due(call + " with the last of " + nodes + " nodes", asked.answer(x, nodes - 1), want);
        }
    }

    /** Gives a call, as a place, numbers outside a row of so many. */
    private static void noSuchPlace(String call, LeastPaths x, int size, Asked asked) {
        for (int v : Sentences.outside(size)) {
            doc.due(call + " with place " + v + " of " + size, asked.answer(x, v), -1);
        }
    }

    /** 0 -> 1 -> .. -> 9 with 1000000 each, arc n from n, and no source. */
    private static LeastPaths chain() {
        LeastPaths x = doc.graph(10);
        for (int n = 0; n < 9; n++) {
            doc.due("arc " + n, x.arc(n, n + 1, 1000000), n);
        }
        return x;
    }

    /** Graphs with two nodes or more, in which no way leads from one node to another. */
    private static LeastPaths[] withoutWays() {
        LeastPaths dropped = doc.graph(3, 0, 1, 1, 1, 0, 1, 1, 2, 1, 2, 1, 1);
        for (int e = 0; e < 4; e++) {
            doc.due("drop(" + e + ")", dropped.drop(e), 3 - e);
        }
        LeastPaths fullDropped = doc.full(1);
        for (int e = 39; e >= 0; e--) {
            doc.due("drop(" + e + ")", fullDropped.drop(e), e);
        }
        return new LeastPaths[] {doc.graph(2), doc.graph(10), dropped, fullDropped};
    }

    static void promise1NoNodes() {
        doc.about("Promise 1", "No NODES.");
        LeastPaths x = new LeastPaths(doc.heap());
        doc.due("distance(0)", x.distance(0), -1);
        doc.due("hops(0)", x.hops(0), -1);
        doc.due("step(0)", x.step(0), -1);
        doc.due("ways(0)", x.ways(0), -1);
        doc.due("tree(0, 0)", x.tree(0, 0), -1);
        doc.due("reached()", x.reached(), 0);
        doc.due("good(0)", x.good(0), -1);
        doc.due("led(0, 0)", x.led(0, 0), -1);
        doc.due("ledTo(0, 0)", x.ledTo(0, 0), -1);
        doc.due("both(0, 0)", x.both(0, 0), -1);
        doc.due("bothTo(0, 0)", x.bothTo(0, 0), -1);
        doc.due("kth(0, 0, 0)", x.kth(0, 0, 0), -1);
        doc.due("kthArc(0, 0, 0, 0)", x.kthArc(0, 0, 0, 0), -1);
        doc.due("widest(0, 1)", x.widest(0, 1), -1);
        doc.due("trust(0, 1, 0)", x.trust(0, 1, 0), -1);
        doc.due("ring()", x.ring(), -3);
        doc.due("ringArc(0)", x.ringArc(0), -3);
        doc.due("missed(0, 1)", x.missed(0, 1), -1);
        doc.due("arc(0, 1, 0)", x.arc(0, 1, 0), -1);
        doc.due("share(0, 1, 1)", x.share(0, 1, 1), -1);
        doc.due("drop(0)", x.drop(0), -1);
        doc.due("source(0, true)", x.source(0, true), -1);
        doc.due("rest(0, 0)", x.rest(0, 0), -1);
        doc.due("clear()", x.clear(), 0);
        doc.due("node()", x.node(), 0);
    }

    static void promise1HeapBounds() {
        doc.about("Promise 1", "(1 when it is less, 3 when it is more)");
        int[] less = {LOW, LOW + 1, -256, -3, -2, -1, 0};
        for (int told : less) {
            doc.due("heap() of " + told, new LeastPaths(told).heap(), 1);
        }
        int[] more = {4, 5, 6, 256, 65536, HIGH - 1, HIGH};
        for (int told : more) {
            doc.due("heap() of " + told, new LeastPaths(told).heap(), 3);
        }
    }

    static void promise1HeapInside() {
        doc.about("Promise 1", "HEAP 1 to 3");
        for (int told = 1; told <= 3; told++) {
            doc.due("heap() of " + told, new LeastPaths(told).heap(), told);
        }
    }

    static void promise1NoAnswerHangsOnHeap() {
        doc.about("Promise 1", "no answer hangs on it");
        int[] told = {LOW, -1, 0, 1, 2, 3, 4, HIGH};
        for (int weight : new int[] {0, 1, 1000000}) {
            LeastPaths first = doc.full(weight);
            String due = answers(first);
            for (int heap : told) {
                LeastPaths x = new LeastPaths(heap);
                doc.grow(x, 10);
                for (int e = 0; e < 40; e++) {
                    doc.due("arc " + e, x.arc(e % 9, e % 9 + 1, weight), e);
                }
                doc.due("answers with heap " + heap, answers(x), due);
            }
        }
    }

    /** What the calls that search answer on a graph with ten nodes. */
    private static String answers(LeastPaths x) {
        StringBuilder all = new StringBuilder();
        x.source(3, true);
        x.rest(5, 2);
        for (int n = 0; n < 10; n++) {
            int other = 9 - n;
            int[] told = {
                x.distance(n), x.hops(n), x.step(n), x.ways(n), x.tree(n, 0), x.led(n, other), x.ledTo(n, other),
                x.both(n, other), x.bothTo(n, other), x.kth(n, other, n), x.kthArc(n, other, 29 - n, 0),
                x.widest(n, other), x.trust(n, other, 1), x.missed(n, other)
            };
            IntStream.of(told).forEach(v -> all.append(v).append(' '));
        }
        return all.append(x.reached()).append(' ').append(x.ring()).toString();
    }

    static void promise2HeapStays() {
        doc.about("Promise 2", "HEAP as it is.");
        LeastPaths x = doc.full(3);
        doc.due("heap() of the full graph", x.heap(), doc.heap());
        doc.due("node(), refused", x.node(), -4);
        doc.due("heap() after a refusal", x.heap(), doc.heap());
        doc.due("clear()", x.clear(), 10);
        doc.due("heap() after clear()", x.heap(), doc.heap());
    }

    static void promise3NodeNumbers() {
        doc.about("Promise 3", "A NODE more: its number.");
        LeastPaths x = doc.graph(0);
        for (int n = 0; n < 10; n++) {
            doc.due("node()", x.node(), n);
            doc.due("good(" + n + ")", x.good(n), 1);
            doc.due("good(" + (n + 1) + ")", x.good(n + 1), -1);
        }
    }

    static void promise3NoRoom() {
        doc.about("Promise 3", "-4.");
        LeastPaths x = doc.graph(9);
        doc.due("node(), the last", x.node(), 9);
        for (int again = 0; again < 3; again++) {
            doc.due("node() without room", x.node(), -4);
            doc.due("good(10)", x.good(10), -1);
        }
        doc.due("clear()", x.clear(), 10);
        doc.due("node() with room again", x.node(), 0);
    }

    static void promise4ArcNumbers() {
        doc.about("Promise 4", "An ARC more: its number.");
        LeastPaths x = doc.graph(10);
        int e = 0;
        for (int from = 0; from < 10; from++) {
            for (int far = 1; far <= 4; far++) {
                doc.due("arc(" + from + ", ..)", x.arc(from, (from + far) % 10, e), e);
                e++;
            }
        }
        doc.due("arc(9, 0, 0) without room", x.arc(9, 0, 0), -4);
    }

    static void promise4NoSuchNodes() {
        doc.about("Promise 4", "-1 no such NODES");
        noSuchNode("arc(v, 0, 1)", (x, v) -> x.arc(v, 0, 1));
        noSuchNode("arc(0, v, 1)", (x, v) -> x.arc(0, v, 1));
        noSuchNode("arc(v, v - 1, 1)", (x, v) -> x.arc(v, v - 1, 1));
        lastNode("arc(v, 0, 1)", 0, (x, v) -> x.arc(v, 0, 1));
        lastNode("arc(0, v, 1)", 0, (x, v) -> x.arc(0, v, 1));
    }

    static void promise4BothTheSame() {
        doc.about("Promise 4", "both are the same");
        for (int nodes : new int[] {1, 2, 10}) {
            LeastPaths x = doc.graph(nodes);
            for (int n = 0; n < nodes; n++) {
                doc.due("arc(" + n + ", " + n + ", 1)", x.arc(n, n, 1), -1);
            }
            doc.due("ring()", x.ring(), -3);
        }
    }

    static void promise4WeightOutside() {
        doc.about("Promise 4", "-2");
        LeastPaths x = doc.graph(2);
        for (int weight : Sentences.outside(1000001)) {
            doc.due("arc(1, 0, " + weight + ")", x.arc(1, 0, weight), -2);
        }
        doc.due("arc(1, 0, 1000000)", x.arc(1, 0, 1000000), 0);
        doc.due("arc(1, 0, 0)", x.arc(1, 0, 0), 1);
    }

    static void promise4NoRoom() {
        doc.about("Promise 4", "-4.");
        LeastPaths x = doc.full(2);
        doc.due("arc(0, 9, 0) without room", x.arc(0, 9, 0), -4);
        doc.due("kth(0, 9, 0)", x.kth(0, 9, 0), 18);
        doc.due("clear()", x.clear(), 10);
        doc.grow(x, 2, 0, 1, 1);
    }

    static void promise5ShareOfOne() {
        doc.about("Promise 5", "An ARC's SHARE: 1.");
        LeastPaths x = chain();
        doc.due("share(0, 2, 3), the first", x.share(0, 2, 3), 1);
        doc.due("share(8, 4, 5), the last", x.share(8, 4, 5), 1);
        doc.due("trust(0, 1, 1)", x.trust(0, 1, 1), 3);
        doc.due("trust(8, 9, 1)", x.trust(8, 9, 1), 5);
        doc.due("trust(1, 8, 1), those between as they were", x.trust(1, 8, 1), 1);
        doc.due("share(0, 2, 3), the same again", x.share(0, 2, 3), 1);
        doc.due("share(0, 1, 7), another one", x.share(0, 1, 7), 1);
        doc.due("trust(0, 9, 0)", x.trust(0, 9, 0), 4);
        doc.due("trust(0, 9, 1)", x.trust(0, 9, 1), 35);
    }

    static void promise5NoSuchArc() {
        doc.about("Promise 5", "-1, -2 below is not 1 .. 9");
        LeastPaths empty = doc.graph(0);
        LeastPaths none = doc.graph(2);
        LeastPaths one = doc.graph(2, 0, 1, 1);
        LeastPaths full = doc.full(1);
        noSuchPlace("share(v, 1, 1) of no nodes", empty, 0, (x, v) -> x.share(v, 1, 1));
        noSuchPlace("share(v, 1, 1)", none, 0, (x, v) -> x.share(v, 1, 1));
        noSuchPlace("share(v, 1, 1)", one, 1, (x, v) -> x.share(v, 1, 1));
        noSuchPlace("share(v, 1, 1)", full, 40, (x, v) -> x.share(v, 1, 1));
        doc.due("share(39, 1, 1)", full.share(39, 1, 1), 1);
        doc.due("share(0, 1, 1)", full.share(0, 1, 1), 1);
        doc.due("drop(39)", full.drop(39), 39);
        doc.due("share(39, 1, 1) of a dropped one", full.share(39, 1, 1), -1);
    }

    static void promise5BelowBounds() {
        doc.about("Promise 5", "-2 below is not 1 .. 9");
        LeastPaths x = doc.graph(2, 0, 1, 1);
        for (int below : new int[] {LOW, LOW + 1, -9, -1, 0, 10, 11, 256, 257, 65537, HIGH}) {
            doc.due("share(0, 0, " + below + ")", x.share(0, 0, below), -2);
            doc.due("share(0, " + below + ", " + below + ")", x.share(0, below, below), -2);
            doc.due("trust(0, 1, 0) after a refusal", x.trust(0, 1, 0), 1);
        }
        for (int below = 1; below <= 9; below++) {
            doc.due("share(0, 1, " + below + ")", x.share(0, 1, below), 1);
            doc.due("trust(0, 1, 1)", x.trust(0, 1, 1), below);
        }
    }

    static void promise5AboveBounds() {
        doc.about("Promise 5", "above is not 0 .. below");
        for (int below = 1; below <= 9; below++) {
            LeastPaths x = doc.graph(2, 0, 1, 1);
            for (int above : Sentences.outside(below + 1)) {
                doc.due("share(0, " + above + ", " + below + ")", x.share(0, above, below), -2);
            }
            doc.due("trust(0, 1, 0) after refusals", x.trust(0, 1, 0), 1);
            doc.due("share(0, 0, " + below + ")", x.share(0, 0, below), 1);
            doc.due("trust(0, 1, 0) of none", x.trust(0, 1, 0), 0);
            doc.due("share(0, " + below + ", " + below + ")", x.share(0, below, below), 1);
            doc.due("trust(0, 1, 0) of all", x.trust(0, 1, 0), 1);
            doc.due("trust(0, 1, 1) of all", x.trust(0, 1, 1), 1);
        }
    }

    static void promise6HowManyThereAre() {
        doc.about("Promise 6", "An ARC is no more: how many there are.");
        LeastPaths x = doc.full(1);
        for (int i = 0; i < 40; i++) {
            int e = (i * 7) % 40;
            doc.due("drop(" + e + ")", x.drop(e), 39 - i);
            doc.due("drop(" + e + "), again", x.drop(e), -1);
        }
        doc.due("kth(0, 1, 0) without arcs", x.kth(0, 1, 0), -3);
        LeastPaths y = doc.graph(2, 0, 1, 1);
        doc.due("drop(0), the only one", y.drop(0), 0);
        doc.due("arc(0, 1, 1)", y.arc(0, 1, 1), 1);
        doc.due("drop(1), the only one", y.drop(1), 0);
    }

    static void promise6NoSuchArc() {
        doc.about("Promise 6", "-1.");
        LeastPaths empty = doc.graph(0);
        LeastPaths none = doc.graph(2);
        LeastPaths one = doc.graph(2, 0, 1, 1);
        LeastPaths full = doc.full(1);
        noSuchPlace("drop(v) of no nodes", empty, 0, LeastPaths::drop);
        noSuchPlace("drop(v)", none, 0, LeastPaths::drop);
        noSuchPlace("drop(v)", one, 1, LeastPaths::drop);
        noSuchPlace("drop(v)", full, 40, LeastPaths::drop);
        doc.due("drop(39)", full.drop(39), 39);
        doc.due("drop(0)", full.drop(0), 38);
        doc.due("drop(0), again", full.drop(0), -1);
    }

    static void promise7FromNowOn() {
        doc.about("Promise 7", "Whether a NODE is a SOURCE from now on");
        LeastPaths x = chain();
        x.source(0, true);
        doc.due("distance(9)", x.distance(9), 9000000);
        x.source(9, true);
        doc.due("distance(9), a source from now on", x.distance(9), 0);
        doc.due("distance(8)", x.distance(8), 8000000);
        x.source(9, false);
        doc.due("distance(9), no source any more", x.distance(9), 9000000);
        x.source(0, false);
        doc.due("distance(9) without sources", x.distance(9), -3);
        doc.due("distance(0) without sources", x.distance(0), -3);
    }

    static void promise7WhetherItWas() {
        doc.about("Promise 7", "whether it was: 1 or 0.");
        LeastPaths x = doc.graph(10);
        for (int n = 0; n < 10; n++) {
            doc.due("source(" + n + ", false) at first", x.source(n, false), 0);
            doc.due("source(" + n + ", true)", x.source(n, true), 0);
            doc.due("source(" + n + ", true), again", x.source(n, true), 1);
        }
        doc.due("reached()", x.reached(), 0b1111111111);
        for (int n = 0; n < 10; n++) {
            doc.due("source(" + n + ", false)", x.source(n, false), 1);
            doc.due("source(" + n + ", false), again", x.source(n, false), 0);
        }
        doc.due("reached()", x.reached(), 0);
    }

    static void promise7NoSuchNode() {
        doc.about("Promise 7", "-1.");
        noSuchNode("source(v, true)", (x, v) -> x.source(v, true));
        noSuchNode("source(v, false)", (x, v) -> x.source(v, false));
        lastNode("source(v, true)", 0, (x, v) -> x.source(v, true));
        LeastPaths x = doc.graph(1);
        doc.due("source(1, true), not there yet", x.source(1, true), -1);
        doc.due("node()", x.node(), 1);
        doc.due("source(1, false), there now", x.source(1, false), 0);
    }

    static void promise8WhatItWas() {
        doc.about("Promise 8", "A NODE's REST: what it was.");
        LeastPaths x = doc.graph(2);
        int[] told = {0, 1, 999999, 1000000, 1000000, 0};
        int was = 0;
        for (int v : told) {
            doc.due("rest(1, " + v + ")", x.rest(1, v), was);
            was = v;
        }
        doc.due("rest(0, 0), another one", x.rest(0, 0), 0);
    }

    static void promise8Refusals() {
        doc.about("Promise 8", "-1, -2.");
        noSuchNode("rest(v, 0)", (x, v) -> x.rest(v, 0));
        lastNode("rest(v, 5)", 0, (x, v) -> x.rest(v, 5));
        LeastPaths x = doc.graph(1);
        doc.due("rest(0, 7)", x.rest(0, 7), 0);
        for (int v : Sentences.outside(1000001)) {
            doc.due("rest(0, " + v + ")", x.rest(0, v), -2);
        }
        doc.due("rest(0, 1000000)", x.rest(0, 1000000), 7);
    }

    static void promise9HowManyThereWere() {
        doc.about("Promise 9", "No NODES any more: how many there were.");
        LeastPaths x = doc.graph(0);
        for (int nodes = 0; nodes <= 10; nodes++) {
            doc.grow(x, nodes);
            doc.due("clear() of " + nodes, x.clear(), nodes);
            doc.due("clear(), again", x.clear(), 0);
            doc.due("good(0)", x.good(0), -1);
        }
    }

    static void promise9NothingIsLeft() {
        doc.about("Promise 9", "No NODES any more");
        LeastPaths x = doc.full(1);
        for (int n = 0; n < 10; n++) {
            doc.due("source(" + n + ", true)", x.source(n, true), 0);
            doc.due("rest(" + n + ", 9)", x.rest(n, 9), 0);
        }
        for (int e = 0; e < 40; e++) {
            doc.due("share(" + e + ", 1, 2)", x.share(e, 1, 2), 1);
        }
        doc.due("drop(3)", x.drop(3), 39);
        doc.due("clear()", x.clear(), 10);
        doc.due("reached()", x.reached(), 0);
        doc.due("ring()", x.ring(), -3);
        doc.due("drop(0)", x.drop(0), -1);
        doc.grow(x, 10);
        doc.due("reached(), no node is a source", x.reached(), 0);
        for (int n = 0; n < 10; n++) {
            doc.due("rest(" + n + ", 0)", x.rest(n, 0), 0);
            doc.due("widest(" + n + ", ..), no arc is left", x.widest(n, (n + 1) % 10), -3);
        }
        doc.due("arc(3, 4, 8)", x.arc(3, 4, 8), 0);
        doc.due("trust(3, 4, 1)", x.trust(3, 4, 1), 1);
        doc.due("widest(3, 4)", x.widest(3, 4), 8);
        doc.due("drop(0), the only one", x.drop(0), 0);
    }

    static void promise10Refusals() {
        doc.about("Promise 10", "-1, -3 no WAY leads to it.");
        noSuchNode("distance(v)", LeastPaths::distance);
        lastNode("distance(v)", -3, LeastPaths::distance);
        for (LeastPaths x : withoutWays()) {
            doc.due("distance(0) without sources", x.distance(0), -3);
            x.source(0, true);
            doc.due("distance(0) of a source", x.distance(0), 0);
            doc.due("distance(1) without arcs", x.distance(1), -3);
        }
    }

    static void promise10Greatest() {
        doc.about("Promise 10", "A NODE's DISTANCE.");
        LeastPaths x = chain();
        doc.due("distance(9) without sources", x.distance(9), -3);
        x.source(0, true);
        for (int n = 0; n < 10; n++) {
            doc.due("distance(" + n + ")", x.distance(n), n * 1000000);
        }
        x.source(0, false);
        x.source(9, true);
        doc.due("distance(8), behind the source", x.distance(8), -3);
    }

    static void promise11Hops() {
        doc.about("Promise 11", "Its HOPS. -1, -3.");
        noSuchNode("hops(v)", LeastPaths::hops);
        lastNode("hops(v)", -3, LeastPaths::hops);
        for (LeastPaths x : withoutWays()) {
            doc.due("hops(1) without sources", x.hops(1), -3);
            x.source(1, true);
            doc.due("hops(1) of a source", x.hops(1), 0);
            doc.due("hops(0) without arcs", x.hops(0), -3);
        }
        LeastPaths x = chain();
        x.source(0, true);
        for (int n = 0; n < 10; n++) {
            doc.due("hops(" + n + ")", x.hops(n), n);
        }
    }

    static void promise12NoStep() {
        doc.about("Promise 12", "-1, -3 there is none, also of a SOURCE.");
        noSuchNode("step(v)", LeastPaths::step);
        lastNode("step(v)", -3, LeastPaths::step);
        for (LeastPaths x : withoutWays()) {
            doc.due("step(1) without sources", x.step(1), -3);
            x.source(1, true);
            doc.due("step(1) of a source", x.step(1), -3);
            doc.due("step(0) without arcs", x.step(0), -3);
        }
        LeastPaths x = chain();
        x.source(0, true);
        doc.due("step(9)", x.step(9), 8);
        doc.due("step(0) of the source", x.step(0), -3);
        x.source(9, true);
        doc.due("step(9) of a source", x.step(9), -3);
        doc.due("step(8)", x.step(8), 7);
    }

    static void promise12GreatestArc() {
        doc.about("Promise 12", "Its STEP.");
        LeastPaths x = doc.full(1);
        x.source(0, true);
        for (int e = 3; e < 39; e += 9) {
            doc.due("step(4)", x.step(4), e);
            doc.due("drop(" + e + ")", x.drop(e), 39 - e / 9);
        }
        doc.due("step(4), the last one", x.step(4), 39);
        doc.due("drop(39)", x.drop(39), 35);
        doc.due("step(4) without any", x.step(4), -3);
    }

    static void promise13NoWays() {
        doc.about("Promise 13", "-1; 0 where no WAY leads to it.");
        noSuchNode("ways(v)", LeastPaths::ways);
        lastNode("ways(v)", 0, LeastPaths::ways);
        for (LeastPaths x : withoutWays()) {
            doc.due("ways(1) without sources", x.ways(1), 0);
            x.source(1, true);
            doc.due("ways(1) of a source", x.ways(1), 1);
            doc.due("ways(0) without arcs", x.ways(0), 0);
        }
    }

    static void promise13HowMany() {
        doc.about("Promise 13", "How many WAYS from SOURCES have its DISTANCE and HOPS.");
        for (int weight : new int[] {0, 1000000}) {
            LeastPaths x = doc.full(weight);
            x.source(0, true);
            // Steps 0 to 3 have five arcs each, steps 4 to 8 have four.
            int[] ways = {1, 5, 25, 125, 625, 2500, 10000, 40000, 160000, 640000};
            for (int n = 0; n < 10; n++) {
                doc.due("ways(" + n + ")", x.ways(n), ways[n]);
            }
            x.source(4, true);
            // With no weight all have 0, and those from 4 have the fewest arcs.
            doc.due("ways(9) with a source that is nearer", x.ways(9), 1024);
            doc.due("ways(4) of a source", x.ways(4), 1);
        }
        // To 3, from sources 0, 1, 2, all sources: three arcs from 0, two from 1, one too long from 2.
        LeastPaths y = doc.graph(4, 0, 3, 5, 0, 3, 5, 0, 3, 5, 1, 3, 5, 1, 3, 5, 2, 3, 6);
        for (int n = 0; n < 3; n++) {
            y.source(n, true);
        }
        doc.due("ways(3) from several sources", y.ways(3), 5);
    }

    static void promise14TreePlaces() {
        doc.about("Promise 14", "ARC i, from 0, of its TREE WAY.");
        LeastPaths x = chain();
        x.source(0, true);
        for (int n = 0; n < 10; n++) {
            for (int i = 0; i < n; i++) {
                doc.due("tree(" + n + ", " + i + ")", x.tree(n, i), i);
            }
            doc.due("tree(" + n + ", " + n + "), behind the last", x.tree(n, n), -1);
            doc.due("tree(" + n + ", -1), before the first", x.tree(n, -1), -1);
        }
    }

    static void promise14NoSuchNode() {
        doc.about("Promise 14", "-1 (NODE)");
        noSuchNode("tree(v, 0)", (x, v) -> x.tree(v, 0));
        lastNode("tree(v, 0)", -3, (x, v) -> x.tree(v, 0));
    }

    static void promise14NoWay() {
        doc.about("Promise 14", "-3 no WAY leads to it");
        for (LeastPaths x : withoutWays()) {
            doc.due("tree(1, 0) without sources", x.tree(1, 0), -3);
            x.source(1, true);
            doc.due("tree(1, 0) of a source", x.tree(1, 0), -1);
            doc.due("tree(0, 0) without arcs", x.tree(0, 0), -3);
        }
    }

    static void promise14NoSuchArc() {
        doc.about("Promise 14", "-1 it has no such ARC");
        LeastPaths x = chain();
        x.source(0, true);
        noSuchPlace("tree(0, v)", x, 0, (y, v) -> y.tree(0, v));
        noSuchPlace("tree(1, v)", x, 1, (y, v) -> y.tree(1, v));
        noSuchPlace("tree(9, v)", x, 9, (y, v) -> y.tree(9, v));
    }

    static void promise15ReachedBits() {
        doc.about("Promise 15", "The NODES to which WAYS lead from SOURCES, as bits.");
        doc.due("reached() of the empty graph", doc.graph(0).reached(), 0);
        for (LeastPaths x : withoutWays()) {
            doc.due("reached() without sources", x.reached(), 0);
            x.source(1, true);
            doc.due("reached() without arcs", x.reached(), 0b10);
        }
        LeastPaths x = chain();
        doc.due("reached() of the chain without sources", x.reached(), 0);
        for (int n = 9; n >= 0; n--) {
            x.source(n, true);
            doc.due("reached() from " + n, x.reached(), 0b1111111111 & -(1 << n));
            x.source(n, false);
        }
    }

    static void promise16Good() {
        doc.about("Promise 16", "Whether RESTS are GOOD for a goal: 1 or 0. -1.");
        noSuchNode("good(v)", LeastPaths::good);
        lastNode("good(v)", 1, LeastPaths::good);
        for (LeastPaths x : withoutWays()) {
            x.rest(0, 1000000);
            doc.due("good(0) with a rest", x.good(0), 0);
            doc.due("good(1) without arcs", x.good(1), 1);
        }
        // Each rest is all that is left to 9; the first arcs are lighter.
        LeastPaths x = doc.graph(10);
        for (int n = 0; n < 9; n++) {
            x.arc(n, n + 1, 100000);
            x.rest(n, (9 - n) * 100000);
        }
        doc.due("good(9), the same everywhere", x.good(9), 1);
        doc.due("good(8), which has a rest", x.good(8), 0);
        doc.due("rest(0, 900001)", x.rest(0, 900001), 900000);
        doc.due("good(9), one too much", x.good(9), 0);
    }

    static void promise17Led() {
        doc.about("Promise 17", "LED from a to a goal: how many NODES were SETTLED. -1.");
        noSuchNode("led(v, 0)", (x, v) -> x.led(v, 0));
        noSuchNode("led(0, v)", (x, v) -> x.led(0, v));
        noSuchNode("led(v, v)", (x, v) -> x.led(v, v));
        lastNode("led(v, 0)", 1, (x, v) -> x.led(v, 0));
        lastNode("led(v, v)", 1, (x, v) -> x.led(v, v));
        LeastPaths x = chain();
        for (int n = 0; n < 10; n++) {
            doc.due("led(" + n + ", " + n + "), itself", x.led(n, n), 1);
            doc.due("led(0, " + n + ")", x.led(0, n), n + 1);
            doc.due("led(9, " + n + ")", x.led(9, n), 1);
        }
    }

    static void promise18LedTo() {
        doc.about("Promise 18", "The goal's number at the end of it. -1, -3 it has none.");
        noSuchNode("ledTo(v, 0)", (x, v) -> x.ledTo(v, 0));
        noSuchNode("ledTo(0, v)", (x, v) -> x.ledTo(0, v));
        noSuchNode("ledTo(v, v)", (x, v) -> x.ledTo(v, v));
        lastNode("ledTo(v, 0)", -3, (x, v) -> x.ledTo(v, 0));
        lastNode("ledTo(0, v)", -3, (x, v) -> x.ledTo(0, v));
        lastNode("ledTo(v, v)", 0, (x, v) -> x.ledTo(v, v));
        LeastPaths x = chain();
        for (int n = 0; n < 10; n++) {
            x.rest(n, 1000000);
            doc.due("ledTo(" + n + ", " + n + "), itself", x.ledTo(n, n), 0);
            doc.due("ledTo(0, " + n + ")", x.ledTo(0, n), n * 1000000);
            doc.due("ledTo(9, " + n + ")", x.ledTo(9, n), n == 9 ? 0 : -3);
        }
        for (LeastPaths y : withoutWays()) {
            doc.due("ledTo(0, 1) without arcs", y.ledTo(0, 1), -3);
        }
    }

    static void promise19Both() {
        doc.about("Promise 19", "FROM BOTH SIDES: how many NODES were SETTLED, by both together. -1.");
        noSuchNode("both(v, 0)", (x, v) -> x.both(v, 0));
        noSuchNode("both(0, v)", (x, v) -> x.both(0, v));
        noSuchNode("both(v, v)", (x, v) -> x.both(v, v));
        lastNode("both(v, 0)", 1, (x, v) -> x.both(v, 0));
        lastNode("both(v, v)", 0, (x, v) -> x.both(v, v));
        LeastPaths x = chain();
        for (int n = 0; n < 10; n++) {
            doc.due("both(" + n + ", " + n + "), itself", x.both(n, n), 0);
            // They take turns; the last arc is never needed.
            doc.due("both(0, " + n + ")", x.both(0, n), n);
        }
        // From 0 to 2: 0 by a, 2 by b, to which no arc leads: b has none.
        LeastPaths y = doc.graph(3, 0, 1, 2, 1, 0, 2, 2, 1, 9);
        doc.due("both(0, 2)", y.both(0, 2), 2);
    }

    static void promise19AllByBoth() {
        doc.about("Promise 19", "by both together");
        // Two rings of five and no way between them: 0, 5, 1, 9, 2, 8, 3, 7, 4 in turns, and a has none.
        LeastPaths x = doc.graph(10);
        for (int n = 0; n < 10; n++) {
            x.arc(n, n / 5 * 5 + (n + 1) % 5, 1);
        }
        doc.due("both(0, 5)", x.both(0, 5), 9);
        doc.due("bothTo(0, 5)", x.bothTo(0, 5), -3);
        // a has 0 for all but the last, so it is on with 0 .. 8; then BEST is 1000000, and so are both together.
        LeastPaths y = doc.graph(10);
        for (int n = 0; n < 9; n++) {
            y.arc(n, n + 1, n == 8 ? 1000000 : 0);
        }
        doc.due("both(0, 9), by a alone", y.both(0, 9), 9);
        doc.due("bothTo(0, 9), by a alone", y.bothTo(0, 9), 1000000);
        // The heavy arc is the first: 0 by a, then b has 0 for all but 0.
        LeastPaths z = doc.graph(10);
        for (int n = 0; n < 9; n++) {
            z.arc(n, n + 1, n == 0 ? 1000000 : 0);
        }
        doc.due("both(0, 9), by b but for the first", z.both(0, 9), 9);
        doc.due("bothTo(0, 9), by b but for the first", z.bothTo(0, 9), 1000000);
    }

    static void promise20BothTo() {
        doc.about("Promise 20", "BEST at its end. -1, -3 there is none.");
        noSuchNode("bothTo(v, 0)", (x, v) -> x.bothTo(v, 0));
        noSuchNode("bothTo(0, v)", (x, v) -> x.bothTo(0, v));
        noSuchNode("bothTo(v, v)", (x, v) -> x.bothTo(v, v));
        lastNode("bothTo(v, 0)", -3, (x, v) -> x.bothTo(v, 0));
        lastNode("bothTo(0, v)", -3, (x, v) -> x.bothTo(0, v));
        lastNode("bothTo(v, v)", 0, (x, v) -> x.bothTo(v, v));
        LeastPaths x = chain();
        for (int n = 0; n < 10; n++) {
            doc.due("bothTo(" + n + ", " + n + "), itself", x.bothTo(n, n), 0);
            doc.due("bothTo(0, " + n + ")", x.bothTo(0, n), n * 1000000);
            doc.due("bothTo(9, " + n + ")", x.bothTo(9, n), n == 9 ? 0 : -3);
        }
        for (LeastPaths y : withoutWays()) {
            doc.due("bothTo(0, 1) without arcs", y.bothTo(0, 1), -3);
        }
    }

    static void promise21NoSuchNodes() {
        doc.about("Promise 21", "-1 (NODES)");
        noSuchNode("kth(v, 0, 0)", (x, v) -> x.kth(v, 0, 0));
        noSuchNode("kth(0, v, 0)", (x, v) -> x.kth(0, v, 0));
        noSuchNode("kth(v, v, 0)", (x, v) -> x.kth(v, v, 0));
        lastNode("kth(v, 0, 0)", -3, (x, v) -> x.kth(v, 0, 0));
        lastNode("kth(0, v, 0)", -3, (x, v) -> x.kth(0, v, 0));
        lastNode("kth(v, v, 0), itself", 0, (x, v) -> x.kth(v, v, 0));
        lastNode("kth(v, v, 1), itself", -3, (x, v) -> x.kth(v, v, 1));
    }

    static void promise21KOutside() {
        doc.about("Promise 21", "-2 k is not 0 .. 29");
        LeastPaths x = doc.full(1);
        for (int k : Sentences.outside(30)) {
            doc.due("kth(0, 9, " + k + ")", x.kth(0, 9, k), -2);
            doc.due("kth(4, 4, " + k + ")", x.kth(4, 4, k), -2);
        }
        doc.due("kth(0, 9, 0)", x.kth(0, 9, 0), 9);
        doc.due("kth(0, 9, 29)", x.kth(0, 9, 29), 9);
    }

    /** Two nodes with so many arcs from 0 to 1, arc e with e. */
    private static LeastPaths sideBySide(int arcs) {
        LeastPaths x = doc.graph(2);
        for (int e = 0; e < arcs; e++) {
            doc.due("arc(0, 1, " + e + ")", x.arc(0, 1, e), e);
        }
        return x;
    }

    static void promise21LastOfTheRow() {
        doc.about("Promise 21", "The LENGTH of WAY k, from 0, in THE ROW of a, b.");
        for (int ways : new int[] {1, 2, 28, 29, 30, 31, 40}) {
            LeastPaths x = sideBySide(ways);
            for (int k = 0; k < 30; k++) {
                doc.due("kth(0, 1, " + k + ") of " + ways, x.kth(0, 1, k), k < ways ? k : -3);
            }
            doc.due("kth(0, 1, 30) of " + ways, x.kth(0, 1, 30), -2);
        }
    }

    static void promise21RowAfterRow() {
        doc.about("Promise 21", "in THE ROW of a, b");
        // A long row asked before leaves nothing in a short one.
        LeastPaths x = doc.full(1);
        for (int again = 0; again < 3; again++) {
            doc.due("kth(0, 9, 29)", x.kth(0, 9, 29), 9);
            doc.due("kth(9, 0, 0)", x.kth(9, 0, 0), -3);
            doc.due("kth(0, 9, 29)", x.kth(0, 9, 29), 9);
            doc.due("kth(8, 9, 3)", x.kth(8, 9, 3), 1);
            doc.due("kth(5, 5, 1)", x.kth(5, 5, 1), -3);
        }
        for (int k = 4; k < 30; k++) {
            doc.due("kth(0, 9, 29)", x.kth(0, 9, 29), 9);
            doc.due("kth(8, 9, " + k + "), which has four", x.kth(8, 9, k), -3);
        }
    }

    static void promise21NoWay() {
        doc.about("Promise 21", "-3.");
        for (LeastPaths x : withoutWays()) {
            doc.due("kth(0, 1, 0)", x.kth(0, 1, 0), -3);
            doc.due("kth(0, 1, 29)", x.kth(0, 1, 29), -3);
            doc.due("kth(1, 1, 0)", x.kth(1, 1, 0), 0);
            doc.due("kth(1, 1, 29)", x.kth(1, 1, 29), -3);
        }
        LeastPaths x = chain();
        doc.due("kth(0, 9, 0)", x.kth(0, 9, 0), 9000000);
        doc.due("kth(0, 9, 1)", x.kth(0, 9, 1), -3);
        doc.due("kth(9, 0, 0)", x.kth(9, 0, 0), -3);
    }

    static void promise22Likewise() {
        doc.about("Promise 22", "-1, -2, -3 likewise");
        noSuchNode("kthArc(v, 0, 0, 0)", (x, v) -> x.kthArc(v, 0, 0, 0));
        noSuchNode("kthArc(0, v, 0, 0)", (x, v) -> x.kthArc(0, v, 0, 0));
        noSuchNode("kthArc(v, v, 0, 0)", (x, v) -> x.kthArc(v, v, 0, 0));
        lastNode("kthArc(v, 0, 0, 0)", -3, (x, v) -> x.kthArc(v, 0, 0, 0));
        lastNode("kthArc(v, v, 0, 0), itself", -1, (x, v) -> x.kthArc(v, v, 0, 0));
        lastNode("kthArc(v, v, 1, 0), itself", -3, (x, v) -> x.kthArc(v, v, 1, 0));
        LeastPaths x = doc.full(1);
        for (int k : Sentences.outside(30)) {
            doc.due("kthArc(0, 9, " + k + ", 0)", x.kthArc(0, 9, k, 0), -2);
        }
        for (LeastPaths y : withoutWays()) {
            doc.due("kthArc(0, 1, 0, 0)", y.kthArc(0, 1, 0, 0), -3);
            doc.due("kthArc(1, 1, 0, 0)", y.kthArc(1, 1, 0, 0), -1);
        }
    }

    static void promise22Places() {
        doc.about("Promise 22", "ARC i, from 0, of it.");
        LeastPaths x = chain();
        for (int n = 0; n < 10; n++) {
            for (int i = 0; i < n; i++) {
                doc.due("kthArc(0, " + n + ", 0, " + i + ")", x.kthArc(0, n, 0, i), i);
            }
            doc.due("kthArc(0, " + n + ", 0, " + n + "), behind the last", x.kthArc(0, n, 0, n), -1);
        }
        LeastPaths y = sideBySide(40);
        for (int k = 0; k < 30; k++) {
            doc.due("kthArc(0, 1, " + k + ", 0)", y.kthArc(0, 1, k, 0), k);
            doc.due("kthArc(0, 1, " + k + ", 1)", y.kthArc(0, 1, k, 1), -1);
        }
    }

    static void promise22NoSuchArc() {
        doc.about("Promise 22", "-1 it has no such ARC");
        LeastPaths x = chain();
        noSuchPlace("kthArc(0, 9, 0, v)", x, 9, (y, v) -> y.kthArc(0, 9, 0, v));
        noSuchPlace("kthArc(0, 1, 0, v)", x, 1, (y, v) -> y.kthArc(0, 1, 0, v));
        noSuchPlace("kthArc(5, 5, 0, v)", x, 0, (y, v) -> y.kthArc(5, 5, 0, v));
        LeastPaths full = doc.full(1);
        noSuchPlace("kthArc(0, 9, 29, v)", full, 9, (y, v) -> y.kthArc(0, 9, 29, v));
    }

    static void promise23NoSuchNodes() {
        doc.about("Promise 23", "-1 (also for the same)");
        noSuchNode("widest(v, 0)", (x, v) -> x.widest(v, 0));
        noSuchNode("widest(0, v)", (x, v) -> x.widest(0, v));
        noSuchNode("widest(v, v)", (x, v) -> x.widest(v, v));
        lastNode("widest(v, v), the same", -1, (x, v) -> x.widest(v, v));
        lastNode("widest(v, 0)", -3, (x, v) -> x.widest(v, 0));
        lastNode("widest(0, v)", -3, (x, v) -> x.widest(0, v));
        LeastPaths ring = doc.graph(2, 0, 1, 5, 1, 0, 5);
        doc.due("widest(1, 1), in a ring", ring.widest(1, 1), -1);
    }

    static void promise23NoWay() {
        doc.about("Promise 23", "-3.");
        for (LeastPaths x : withoutWays()) {
            doc.due("widest(0, 1) without arcs", x.widest(0, 1), -3);
        }
        LeastPaths x = chain();
        doc.due("widest(9, 0), against the arcs", x.widest(9, 0), -3);
        doc.due("drop(4)", x.drop(4), 8);
        doc.due("widest(0, 9), one arc dropped", x.widest(0, 9), -3);
    }

    static void promise23Greatest() {
        doc.about("Promise 23", "The greatest WIDTH of a WAY from a to b (two NODES).");
        LeastPaths x = chain();
        doc.due("widest(0, 9)", x.widest(0, 9), 1000000);
        doc.due("arc(0, 9, 0), a short one", x.arc(0, 9, 0), 9);
        doc.due("widest(0, 9), by the long one still", x.widest(0, 9), 1000000);
        doc.due("drop(0)", x.drop(0), 9);
        doc.due("widest(0, 9), of no weight", x.widest(0, 9), 0);
        doc.due("arc(0, 1, 999999)", x.arc(0, 1, 999999), 10);
        doc.due("widest(0, 9), one less", x.widest(0, 9), 999999);
    }

    static void promise24NoSuchNodes() {
        doc.about("Promise 24", "-1 (also for the same)");
        noSuchNode("trust(v, 0, 0)", (x, v) -> x.trust(v, 0, 0));
        noSuchNode("trust(0, v, 1)", (x, v) -> x.trust(0, v, 1));
        noSuchNode("trust(v, v, 0)", (x, v) -> x.trust(v, v, 0));
        lastNode("trust(v, v, 0), the same", -1, (x, v) -> x.trust(v, v, 0));
        lastNode("trust(v, v, 1), the same", -1, (x, v) -> x.trust(v, v, 1));
        lastNode("trust(v, 0, 0)", -3, (x, v) -> x.trust(v, 0, 0));
    }

    static void promise24AnotherPart() {
        doc.about("Promise 24", "-2 another part");
        LeastPaths x = doc.graph(2, 0, 1, 1);
        x.share(0, 2, 3);
        for (int part : Sentences.outside(2)) {
            doc.due("trust(0, 1, " + part + ")", x.trust(0, 1, part), -2);
        }
        doc.due("trust(0, 1, 0)", x.trust(0, 1, 0), 2);
        doc.due("trust(0, 1, 1)", x.trust(0, 1, 1), 3);
    }

    static void promise24NoWay() {
        doc.about("Promise 24", "-3 there is no WAY");
        for (LeastPaths x : withoutWays()) {
            doc.due("trust(0, 1, 0) without arcs", x.trust(0, 1, 0), -3);
            doc.due("trust(0, 1, 1) without arcs", x.trust(0, 1, 1), -3);
        }
        LeastPaths x = doc.graph(2, 0, 1, 1);
        x.share(0, 0, 1);
        doc.due("trust(0, 1, 0), a way of no trust", x.trust(0, 1, 0), 0);
        doc.due("trust(1, 0, 0), no way", x.trust(1, 0, 0), -3);
    }

    static void promise24NoTrust() {
        doc.about("Promise 24", "(0 of 1 if it is 0)");
        for (int below = 1; below <= 9; below++) {
            LeastPaths x = chain();
            for (int e = 0; e < 9; e++) {
                x.share(e, e == 4 ? 0 : 7, e == 4 ? below : 9);
            }
            doc.due("trust(0, 9, 0)", x.trust(0, 9, 0), 0);
            doc.due("trust(0, 9, 1)", x.trust(0, 9, 1), 1);
        }
    }

    static void promise24LowestTerms() {
        doc.about("Promise 24", "The greatest TRUST of a WAY from a to b, in lowest terms: part 0 above, 1 below");
        for (int below = 1; below <= 9; below++) {
            for (int above = 1; above <= below; above++) {
                LeastPaths x = doc.graph(2, 0, 1, 1);
                x.share(0, above, below);
                int common = 1;
                for (int i = 2; i <= above; i++) {
                    common = above % i == 0 && below % i == 0 ? i : common;
                }
                doc.due("trust(0, 1, 0) of " + above + " of " + below, x.trust(0, 1, 0), above / common);
                doc.due("trust(0, 1, 1) of " + above + " of " + below, x.trust(0, 1, 1), below / common);
            }
        }
        LeastPaths x = chain();
        for (int e = 0; e < 9; e++) {
            x.share(e, 8, 9);
        }
        doc.due("trust(0, 9, 0), the greatest terms", x.trust(0, 9, 0), 134217728);
        doc.due("trust(0, 9, 1), the greatest terms", x.trust(0, 9, 1), 387420489);
        for (int e = 0; e < 9; e++) {
            x.share(e, 1, 9);
        }
        doc.due("trust(0, 9, 0), the least", x.trust(0, 9, 0), 1);
        doc.due("trust(0, 9, 1), the least", x.trust(0, 9, 1), 387420489);
        for (int e = 0; e < 9; e++) {
            x.share(e, 9, 9);
        }
        doc.due("trust(0, 9, 1), the most", x.trust(0, 9, 1), 1);
    }

    static void promise24RingsOfFullTrust() {
        doc.about("Promise 24", "in lowest terms");
        // Arcs to and fro, all 9 of 9: going round adds nothing, and no term grows beyond its bounds by it.
        LeastPaths x = doc.graph(10);
        for (int e = 0; e < 36; e++) {
            int n = e / 4;
            x.arc(e % 2 == 0 ? n : n + 1, e % 2 == 0 ? n + 1 : n, 1);
            x.share(e, 9, 9);
        }
        doc.due("trust(0, 9, 0), all of it", x.trust(0, 9, 0), 1);
        doc.due("trust(0, 9, 1), all of it", x.trust(0, 9, 1), 1);
        x.share(32, 8, 9);
        x.share(34, 7, 9);
        doc.due("trust(0, 9, 0), but for the last step", x.trust(0, 9, 0), 8);
        doc.due("trust(0, 9, 1), but for the last step", x.trust(0, 9, 1), 9);
        doc.due("trust(9, 0, 1), all of it back", x.trust(9, 0, 1), 1);
    }

    static void promise25NoRing() {
        doc.about("Promise 25", "-3.");
        doc.due("ring() of the empty graph", doc.graph(0).ring(), -3);
        doc.due("ring() of one node", doc.graph(1).ring(), -3);
        for (LeastPaths x : withoutWays()) {
            doc.due("ring() without arcs", x.ring(), -3);
        }
        doc.due("ring() of the full graph without one", doc.full(0).ring(), -3);
        LeastPaths x = chain();
        doc.due("ring() of the chain", x.ring(), -3);
        doc.due("arc(9, 0, 0)", x.arc(9, 0, 0), 9);
        doc.due("ring()", x.ring(), 9000000);
        doc.due("drop(4)", x.drop(4), 9);
        doc.due("ring(), opened again", x.ring(), -3);
    }

    static void promise25Lengths() {
        doc.about("Promise 25", "The LENGTH of THE RING.");
        LeastPaths x = chain();
        doc.due("arc(9, 0, 1000000)", x.arc(9, 0, 1000000), 9);
        doc.due("ring(), the greatest", x.ring(), 10000000);
        doc.due("arc(1, 0, 0)", x.arc(1, 0, 0), 10);
        doc.due("ring(), of two", x.ring(), 1000000);
        doc.due("arc(0, 1, 0)", x.arc(0, 1, 0), 11);
        doc.due("ring(), of no weight", x.ring(), 0);
        // The last two arcs of 40.
        LeastPaths y = doc.graph(10);
        for (int e = 0; e < 38; e++) {
            y.arc(0, 1, 1);
        }
        doc.due("arc(8, 9, 5)", y.arc(8, 9, 5), 38);
        doc.due("arc(9, 8, 6)", y.arc(9, 8, 6), 39);
        doc.due("ring() of the last two", y.ring(), 11);
        doc.due("ringArc(0)", y.ringArc(0), 38);
        doc.due("ringArc(1)", y.ringArc(1), 39);
    }

    static void promise26Places() {
        doc.about("Promise 26", "ARC i, from 0, of THE RING. -3, -1.");
        LeastPaths x = chain();
        for (int i : new int[] {LOW, -1, 0, 1, 9, 10, HIGH}) {
            doc.due("ringArc(" + i + ") without a ring", x.ringArc(i), -3);
            doc.due("ringArc(" + i + ") of the empty graph", doc.graph(0).ringArc(i), -3);
        }
        doc.due("arc(9, 0, 1)", x.arc(9, 0, 1), 9);
        for (int i = 0; i < 10; i++) {
            doc.due("ringArc(" + i + ")", x.ringArc(i), i);
        }
        noSuchPlace("ringArc(v)", x, 10, LeastPaths::ringArc);
        doc.due("arc(9, 8, 1)", x.arc(9, 8, 1), 10);
        doc.due("ringArc(0) of two", x.ringArc(0), 8);
        doc.due("ringArc(1) of two", x.ringArc(1), 10);
        noSuchPlace("ringArc(v) of two", x, 2, LeastPaths::ringArc);
    }

    static void promise27NoSuchNodes() {
        doc.about("Promise 27", "-1 (also for the same)");
        noSuchNode("missed(v, 0)", (x, v) -> x.missed(v, 0));
        noSuchNode("missed(0, v)", (x, v) -> x.missed(0, v));
        noSuchNode("missed(v, v)", (x, v) -> x.missed(v, v));
        lastNode("missed(v, v), the same", -1, (x, v) -> x.missed(v, v));
        lastNode("missed(v, 0)", -3, (x, v) -> x.missed(v, 0));
        lastNode("missed(0, v)", -3, (x, v) -> x.missed(0, v));
        LeastPaths ring = doc.graph(2, 0, 1, 5, 1, 0, 5);
        doc.due("missed(1, 1), in a ring", ring.missed(1, 1), -1);
    }

    static void promise27NoWayOrNoChange() {
        doc.about("Promise 27", "-3 there is no WAY, or no ARC changes it");
        for (LeastPaths x : withoutWays()) {
            doc.due("missed(0, 1) without arcs", x.missed(0, 1), -3);
        }
        LeastPaths x = doc.graph(2, 0, 1, 7, 0, 1, 7);
        doc.due("missed(0, 1), another of the same", x.missed(0, 1), -3);
        doc.due("missed(1, 0), no way", x.missed(1, 0), -3);
        doc.due("drop(1)", x.drop(1), 1);
        doc.due("missed(0, 1), the only one", x.missed(0, 1), 0);
        doc.due("arc(0, 1, 8)", x.arc(0, 1, 8), 2);
        doc.due("missed(0, 1), one longer by one", x.missed(0, 1), 0);
        doc.due("missed(0, 1) of the full graph", doc.full(1).missed(0, 9), -3);
    }

    static void promise27NoneAtAll() {
        doc.about("Promise 27", "(none at all being greater than all)");
        // Without arc 0 there is 1000001, without arc 2 none at all.
        LeastPaths x = doc.graph(3, 0, 1, 0, 0, 1, 1000000, 1, 2, 1);
        doc.due("missed(0, 2)", x.missed(0, 2), 2);
        // The longest way left, with nine arcs of 1000000 each, is less than none.
        LeastPaths y = doc.graph(10);
        doc.due("arc(0, 8, 0)", y.arc(0, 8, 0), 0);
        for (int n = 0; n < 9; n++) {
            doc.due("arc", y.arc(n, n + 1, 1000000), n + 1);
        }
        doc.due("missed(0, 9)", y.missed(0, 9), 9);
        doc.due("arc(8, 9, 1000000)", y.arc(8, 9, 1000000), 10);
        doc.due("missed(0, 9), another at its side", y.missed(0, 9), 0);
    }

    static void promise27FirstOfSeveral() {
        doc.about("Promise 27", "the first of several");
        LeastPaths x = chain();
        doc.due("missed(0, 9), all alike", x.missed(0, 9), 0);
        doc.due("missed(4, 9), all alike", x.missed(4, 9), 4);
        doc.due("drop(0)", x.drop(0), 8);
        doc.due("arc(0, 1, 1000000)", x.arc(0, 1, 1000000), 9);
        doc.due("missed(0, 9), the first that is left", x.missed(0, 9), 1);
        doc.due("missed(0, 1), a greater number", x.missed(0, 1), 9);
        // The last of 40 alone.
        LeastPaths y = doc.graph(3);
        for (int e = 0; e < 39; e++) {
            y.arc(1, 0, 1);
        }
        doc.due("arc(0, 2, 1)", y.arc(0, 2, 1), 39);
        doc.due("missed(0, 2), the last of 40", y.missed(0, 2), 39);
        doc.due("missed(1, 2), the last of 40", y.missed(1, 2), 39);
    }

    static void promise27Greatest() {
        doc.about("Promise 27", "The ARC without which the least LENGTH from a to b is greatest");
        // Without arc 0: 7; without arc 1: 6; arcs 2 and 3 are not on the least way.
        LeastPaths x = doc.graph(3, 0, 1, 2, 1, 2, 2, 0, 2, 7, 1, 2, 4);
        doc.due("missed(0, 2)", x.missed(0, 2), 0);
        doc.due("arc(0, 1, 3)", x.arc(0, 1, 3), 4);
        doc.due("missed(0, 2), another for arc 0", x.missed(0, 2), 1);
        doc.due("arc(1, 2, 3)", x.arc(1, 2, 3), 5);
        doc.due("missed(0, 2), both alike: the first", x.missed(0, 2), 0);
    }
}
