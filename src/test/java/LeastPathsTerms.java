/** The sentences of 'What it is' and 'Terms' that name a bound or a case at the edge, a test for each. */
public final class LeastPathsTerms {
    private static Sentences doc;

    public static void main(String[] args) throws Exception {
        doc = new Sentences();
        doc.runAll(LeastPathsTerms.class, "What it is", "Terms");
    }

    /** 0 -> 1 -> 2 -> 0 with 1, 1, 2, and 0 -> 2 with 5; 0 is the source, 3 has no arcs. Nine calls. */
    private static LeastPaths town() {
        LeastPaths x = doc.graph(4, 0, 1, 1, 1, 2, 1, 0, 2, 5, 2, 0, 2);
        doc.due("source(0, true)", x.source(0, true), 0);
        return x;
    }

    private static final int QUESTIONS = 19;

    /** Asks one of the questions on the town and looks at the answer. */
    private static void ask(LeastPaths x, int question) {
        switch (question) {
            case 0 -> doc.due("heap()", x.heap(), doc.heap());
            case 1 -> doc.due("distance(2)", x.distance(2), 2);
            case 2 -> doc.due("hops(2)", x.hops(2), 2);
            case 3 -> doc.due("step(2)", x.step(2), 1);
            case 4 -> doc.due("ways(2)", x.ways(2), 1);
            case 5 -> doc.due("tree(2, 1)", x.tree(2, 1), 1);
            case 6 -> doc.due("reached()", x.reached(), 0b111);
            case 7 -> doc.due("good(2)", x.good(2), 1);
            case 8 -> doc.due("led(0, 2)", x.led(0, 2), 3);
            case 9 -> doc.due("ledTo(0, 2)", x.ledTo(0, 2), 2);
            case 10 -> doc.due("both(0, 2)", x.both(0, 2), 2);
            case 11 -> doc.due("bothTo(0, 2)", x.bothTo(0, 2), 2);
            case 12 -> doc.due("kth(0, 2, 1)", x.kth(0, 2, 1), 5);
            case 13 -> doc.due("kthArc(0, 2, 0, 1)", x.kthArc(0, 2, 0, 1), 1);
            case 14 -> doc.due("widest(0, 2)", x.widest(0, 2), 5);
            case 15 -> doc.due("trust(0, 2, 1)", x.trust(0, 2, 1), 1);
            case 16 -> doc.due("ring()", x.ring(), 4);
            case 17 -> doc.due("ringArc(2)", x.ringArc(2), 3);
            default -> doc.due("missed(0, 2)", x.missed(0, 2), 0);
        }
    }

    private static final int CHANGES = 7;

    private static void change(LeastPaths x, int change) {
        switch (change) {
            case 0 -> doc.due("node()", x.node(), 4);
            case 1 -> doc.due("arc(0, 3, 7)", x.arc(0, 3, 7), 4);
            case 2 -> doc.due("share(0, 1, 2)", x.share(0, 1, 2), 1);
            case 3 -> doc.due("drop(0)", x.drop(0), 3);
            case 4 -> doc.due("source(1, true)", x.source(1, true), 0);
            case 5 -> doc.due("rest(1, 5)", x.rest(1, 5), 0);
            default -> doc.due("clear()", x.clear(), 4);
        }
    }

    static void callNumber512() {
        doc.about("What it is", "An object is used for at most 512 calls after it has been made");
        for (int last = 0; last < QUESTIONS + CHANGES; last++) {
            LeastPaths x = town();
            for (int call = 10; call < 512; call++) {
                ask(x, call % QUESTIONS);
            }
            if (last < QUESTIONS) {
                ask(x, last);
            } else {
                change(x, last - QUESTIONS);
            }
        }
    }

    /** Answers behind the 512th are free, but they come. */
    static void callsBehind512() {
        doc.about("What it is", "what later calls answer is free");
        LeastPaths x = town();
        for (int call = 10; call <= 2000; call++) {
            x.node();
            x.arc(call % 10, (call + 3) % 10, call);
            x.kthArc(0, 2, 29, call);
            x.ringArc(call);
        }
        doc.due("it is still there: heap()", x.heap(), doc.heap());
    }

    static void tenNodes() {
        doc.about("Terms", "A GRAPH has NODES 0, 1, .. (10 at most)");
        LeastPaths x = doc.graph(0);
        for (int n = 0; n < 10; n++) {
            doc.due("rest(" + n + ", 0) before there is one", x.rest(n, 0), -1);
            doc.due("node()", x.node(), n);
            doc.due("rest(" + n + ", 0)", x.rest(n, 0), 0);
        }
        doc.due("node() beyond 10", x.node(), -4);
        doc.due("node() beyond 10, again", x.node(), -4);
        doc.due("rest(10, 0)", x.rest(10, 0), -1);
    }

    static void fortyArcs() {
        doc.about("Terms", "ARCS 0, 1, .. (40 at most");
        LeastPaths x = doc.graph(2);
        for (int e = 0; e < 40; e++) {
            doc.due("share(" + e + ", 1, 1) before there is one", x.share(e, 1, 1), -1);
            doc.due("arc(0, 1, 3)", x.arc(0, 1, 3), e);
            doc.due("share(" + e + ", 1, 1)", x.share(e, 1, 1), 1);
        }
        doc.due("arc(0, 1, 3) beyond 40", x.arc(0, 1, 3), -4);
        doc.due("arc(1, 0, 0) beyond 40", x.arc(1, 0, 0), -4);
        doc.due("share(40, 1, 1)", x.share(40, 1, 1), -1);
        doc.due("drop(40)", x.drop(40), -1);
    }

    static void droppedArcsAreCounted() {
        doc.about("Terms", "those that were dropped counted");
        LeastPaths x = doc.graph(2);
        for (int e = 0; e < 40; e++) {
            doc.due("arc(0, 1, 3), the only one", x.arc(0, 1, 3), e);
            doc.due("drop(" + e + ")", x.drop(e), 0);
        }
        doc.due("arc(0, 1, 3) behind 40 dropped ones", x.arc(0, 1, 3), -4);
        LeastPaths y = doc.graph(2);
        for (int e = 0; e < 39; e++) {
            doc.due("arc(1, 0, 3)", y.arc(1, 0, 3), e);
        }
        doc.due("drop(0)", y.drop(0), 38);
        doc.due("arc(1, 0, 3), number 40", y.arc(1, 0, 3), 39);
        doc.due("arc(1, 0, 3), number 41", y.arc(1, 0, 3), -4);
        doc.due("drop(39)", y.drop(39), 38);
        doc.due("arc(1, 0, 3), number 41, the last being dropped", y.arc(1, 0, 3), -4);
    }

    static void arcNumbersDoNotComeAgain() {
        doc.about("Terms", "a number does not come again");
        LeastPaths x = doc.graph(3, 0, 1, 1, 1, 2, 1, 2, 0, 1);
        doc.due("drop(2), the last", x.drop(2), 2);
        doc.due("drop(0), the first", x.drop(0), 1);
        doc.due("arc(0, 1, 1)", x.arc(0, 1, 1), 3);
        doc.due("arc(2, 0, 1)", x.arc(2, 0, 1), 4);
        doc.due("share(0, 1, 2)", x.share(0, 1, 2), -1);
        doc.due("drop(2)", x.drop(2), -1);
        doc.due("ringArc(0)", x.ringArc(0), 1);
        doc.due("ringArc(1)", x.ringArc(1), 4);
        doc.due("ringArc(2)", x.ringArc(2), 3);
    }

    static void arcsLeadToAnotherNode() {
        doc.about("Terms", "each from a NODE to another one");
        LeastPaths x = doc.graph(10);
        for (int n = 0; n < 10; n++) {
            doc.due("arc(" + n + ", " + n + ", 1)", x.arc(n, n, 1), -1);
        }
        doc.due("arc(9, 0, 1)", x.arc(9, 0, 1), 0);
        doc.due("arc(9, 0, 1), one at its side", x.arc(9, 0, 1), 1);
        doc.due("arc(0, 9, 1), one back", x.arc(0, 9, 1), 2);
        doc.due("arc(8, 9, 1)", x.arc(8, 9, 1), 3);
    }

    static void weights() {
        doc.about("Terms", "with a WEIGHT, 0 to 1000000");
        LeastPaths x = doc.graph(2);
        for (int weight : Sentences.outside(1000001)) {
            doc.due("arc(0, 1, " + weight + ")", x.arc(0, 1, weight), -2);
        }
        doc.due("kth(0, 1, 0) after refusals", x.kth(0, 1, 0), -3);
        int[] inside = {1000000, 999999, 1, 0};
        for (int e = 0; e < inside.length; e++) {
            doc.due("arc(0, 1, " + inside[e] + ")", x.arc(0, 1, inside[e]), e);
            doc.due("kth(0, 1, 0)", x.kth(0, 1, 0), inside[e]);
            doc.due("widest(0, 1)", x.widest(0, 1), 1000000);
        }
    }

    static void sharesAtFirst() {
        doc.about("Terms", "a SHARE, a fraction (1 of 1 at first)");
        LeastPaths x = doc.graph(2);
        for (int e = 0; e < 40; e++) {
            doc.due("arc(0, 1, 3)", x.arc(0, 1, 3), e);
            doc.due("trust(0, 1, 0) of a new one", x.trust(0, 1, 0), 1);
            doc.due("trust(0, 1, 1) of a new one", x.trust(0, 1, 1), 1);
            doc.due("share(" + e + ", 0, 9)", x.share(e, 0, 9), 1);
            doc.due("trust(0, 1, 0) of none", x.trust(0, 1, 0), 0);
        }
        doc.due("clear()", x.clear(), 2);
        doc.grow(x, 2, 0, 1, 3);
        doc.due("trust(0, 1, 0) of the first after clear()", x.trust(0, 1, 0), 1);
        doc.due("trust(0, 1, 1) of the first after clear()", x.trust(0, 1, 1), 1);
    }

    static void waysFollowArcs() {
        doc.about("Terms",
                "is a row of ARCS, the first from a, each next one from where the one before leads, the last to b");
        LeastPaths x = doc.graph(3, 0, 1, 1, 2, 1, 1);
        doc.due("source(0, true)", x.source(0, true), 0);
        doc.due("distance(1)", x.distance(1), 1);
        doc.due("distance(2), against an arc", x.distance(2), -3);
        doc.due("kth(0, 2, 0)", x.kth(0, 2, 0), -3);
        doc.due("kth(1, 0, 0)", x.kth(1, 0, 0), -3);
        doc.due("ledTo(0, 2)", x.ledTo(0, 2), -3);
        doc.due("bothTo(0, 2)", x.bothTo(0, 2), -3);
        doc.due("widest(1, 0)", x.widest(1, 0), -3);
        doc.due("trust(0, 2, 0)", x.trust(0, 2, 0), -3);
        doc.due("missed(0, 2)", x.missed(0, 2), -3);
        doc.due("ring()", x.ring(), -3);
    }

    static void waysWithoutArcs() {
        doc.about("Terms", "(without ARCS: from a to a)");
        LeastPaths dropped = doc.graph(2, 0, 1, 1, 1, 0, 1);
        doc.due("drop(0)", dropped.drop(0), 1);
        doc.due("drop(1)", dropped.drop(1), 0);
        for (LeastPaths x : new LeastPaths[] {doc.graph(2), dropped}) {
            doc.due("source(1, true)", x.source(1, true), 0);
            doc.due("distance(1)", x.distance(1), 0);
            doc.due("hops(1)", x.hops(1), 0);
            doc.due("ways(1)", x.ways(1), 1);
            doc.due("reached()", x.reached(), 0b10);
            doc.due("kth(1, 1, 0)", x.kth(1, 1, 0), 0);
            doc.due("kth(0, 0, 0)", x.kth(0, 0, 0), 0);
            doc.due("kthArc(0, 0, 0, 0)", x.kthArc(0, 0, 0, 0), -1);
            doc.due("kth(0, 1, 0)", x.kth(0, 1, 0), -3);
        }
    }

    static void lengths() {
        doc.about("Terms", "its LENGTH is the sum of their WEIGHTS");
        for (int weight : new int[] {0, 1, 1000000}) {
            LeastPaths x = doc.full(weight);
            doc.due("source(0, true)", x.source(0, true), 0);
            for (int n = 0; n < 10; n++) {
                doc.due("distance(" + n + ")", x.distance(n), n * weight);
                doc.due("ledTo(0, " + n + ")", x.ledTo(0, n), n * weight);
                doc.due("bothTo(0, " + n + ")", x.bothTo(0, n), n * weight);
                doc.due("kth(0, " + n + ", 0)", x.kth(0, n, 0), n * weight);
            }
        }
        LeastPaths ring = doc.graph(10);
        for (int n = 0; n < 10; n++) {
            doc.due("arc " + n, ring.arc(n, (n + 1) % 10, 1000000), n);
        }
        doc.due("ring(), the longest", ring.ring(), 10000000);
    }

    static void simpleWays() {
        doc.about("Terms", "SIMPLE it is if it comes to no NODE twice.");
        // 0 -> 1 -> 2, and arcs back from everywhere, to 0, to 1, and from the goal.
        LeastPaths x = doc.graph(4, 0, 1, 0, 1, 2, 0, 1, 0, 0, 1, 3, 0, 3, 1, 0, 2, 1, 0, 2, 0, 0);
        doc.due("kth(0, 2, 0)", x.kth(0, 2, 0), 0);
        doc.due("kthArc(0, 2, 0, 2)", x.kthArc(0, 2, 0, 2), -1);
        doc.due("kth(0, 2, 1)", x.kth(0, 2, 1), -3);
        for (int n = 0; n < 4; n++) {
            doc.due("kth(" + n + ", " + n + ", 0)", x.kth(n, n, 0), 0);
            doc.due("kth(" + n + ", " + n + ", 1), in spite of rings", x.kth(n, n, 1), -3);
        }
        // Behind 0 -> 1 -> 2 comes 0 -> 2, and not 0 -> 1 -> 0 -> 2.
        LeastPaths y = doc.graph(3, 0, 1, 1, 1, 2, 1, 1, 0, 1, 0, 2, 9);
        doc.due("kth(0, 2, 1)", y.kth(0, 2, 1), 9);
        doc.due("kthArc(0, 2, 1, 0)", y.kthArc(0, 2, 1, 0), 3);
        doc.due("kth(0, 2, 2)", y.kth(0, 2, 2), -3);
    }

    static void sourcesAreASet() {
        doc.about("Terms", "SOURCES are a SET of NODES.");
        LeastPaths x = doc.graph(10);
        doc.due("reached() without sources", x.reached(), 0);
        doc.due("source(9, true)", x.source(9, true), 0);
        doc.due("source(9, true), again", x.source(9, true), 1);
        doc.due("reached()", x.reached(), 1 << 9);
        doc.due("source(9, false)", x.source(9, false), 1);
        doc.due("reached() with none left", x.reached(), 0);
        for (int n = 0; n < 10; n++) {
            doc.due("source(" + n + ", true)", x.source(n, true), 0);
            doc.due("reached()", x.reached(), (2 << n) - 1);
        }
        for (int n = 0; n < 10; n++) {
            doc.due("distance(" + n + "), all being sources", x.distance(n), 0);
        }
    }

    static void distances() {
        doc.about("Terms", "The DISTANCE of a NODE is the least LENGTH of a WAY from a SOURCE to it");
        LeastPaths x = doc.graph(4, 0, 2, 7, 1, 3, 3, 3, 2, 3);
        doc.due("distance(2) without sources", x.distance(2), -3);
        doc.due("source(0, true)", x.source(0, true), 0);
        doc.due("distance(2) from 0", x.distance(2), 7);
        doc.due("source(1, true)", x.source(1, true), 0);
        doc.due("distance(2) from 0 and 1", x.distance(2), 6);
        doc.due("source(3, true)", x.source(3, true), 0);
        doc.due("distance(2) from 0, 1 and 3", x.distance(2), 3);
        doc.due("source(2, true)", x.source(2, true), 0);
        doc.due("distance(2), a source", x.distance(2), 0);
        doc.due("source(2, false)", x.source(2, false), 1);
        doc.due("source(3, false)", x.source(3, false), 1);
        doc.due("distance(2), no source any more", x.distance(2), 6);
        doc.due("rest(3, 1000000)", x.rest(3, 1000000), 0);
        doc.due("arc(2, 0, 1)", x.arc(2, 0, 1), 3);
        doc.due("source(0, false)", x.source(0, false), 1);
        doc.due("arc(1, 2, 8)", x.arc(1, 2, 8), 4);
        doc.due("distance(0), rests not counted", x.distance(0), 7);
    }

    static void fewestHops() {
        doc.about("Terms", "its HOPS the fewest ARCS of WAYS with that LENGTH");
        // To 3: one arc with 4; two with 3; three with 3.
        LeastPaths x = doc.graph(4, 0, 3, 4, 0, 1, 1, 1, 3, 2, 1, 2, 1, 2, 3, 1);
        doc.due("source(0, true)", x.source(0, true), 0);
        doc.due("hops(3)", x.hops(3), 2);
        doc.due("drop(2)", x.drop(2), 4);
        doc.due("hops(3), the long one", x.hops(3), 3);
        doc.due("arc(0, 3, 3)", x.arc(0, 3, 3), 5);
        doc.due("hops(3), one arc of the same length", x.hops(3), 1);
        doc.due("source(2, true)", x.source(2, true), 0);
        doc.due("hops(2), a source", x.hops(2), 0);
        doc.due("hops(3), from the nearer source", x.hops(3), 1);
    }

    static void leastStep() {
        doc.about("Terms",
                "its STEP the ARC of the least number that is the last of a WAY with that LENGTH and so many ARCS");
        // To 3: by arc 0 with 3 and three arcs, by arc 1 with 4 and one, by arcs 2 and 3 with 3 and two.
        LeastPaths x = doc.graph(5, 2, 3, 1, 0, 3, 4, 1, 3, 2, 4, 3, 1, 0, 1, 1, 1, 2, 1, 0, 4, 2);
        doc.due("source(0, true)", x.source(0, true), 0);
        doc.due("step(3)", x.step(3), 2);
        doc.due("drop(2)", x.drop(2), 6);
        doc.due("step(3) without arc 2", x.step(3), 3);
        doc.due("drop(3)", x.drop(3), 5);
        doc.due("step(3) without arcs 2, 3", x.step(3), 0);
        doc.due("drop(0)", x.drop(0), 4);
        doc.due("step(3) without arcs 0, 2, 3", x.step(3), 1);
    }

    static void noStepOfASource() {
        doc.about("Terms", "(none: it is a SOURCE)");
        LeastPaths x = doc.graph(3, 0, 1, 0, 1, 0, 0, 1, 2, 0, 2, 1, 0);
        doc.due("source(0, true)", x.source(0, true), 0);
        doc.due("step(0), though a ring of no weight leads to it", x.step(0), -3);
        doc.due("step(1)", x.step(1), 0);
        doc.due("source(1, true)", x.source(1, true), 0);
        doc.due("step(1), though it is beside a source", x.step(1), -3);
        doc.due("step(2)", x.step(2), 2);
    }

    static void treeWays() {
        doc.about("Terms", "The TREE WAY of a NODE: that of the NODE from where its STEP leads, and its STEP.");
        // Both ways to 3 have 2 and two arcs: 0, 3 and 1, 2. Its step is 2, so its way begins with 1.
        LeastPaths x = doc.graph(5, 0, 2, 1, 0, 1, 1, 1, 3, 1, 2, 3, 1, 3, 4, 1);
        doc.due("source(0, true)", x.source(0, true), 0);
        int[] way = {1, 2, 4};
        for (int i = 0; i < 3; i++) {
            doc.due("tree(4, " + i + ")", x.tree(4, i), way[i]);
        }
        doc.due("tree(4, 3)", x.tree(4, 3), -1);
        doc.due("source(3, true)", x.source(3, true), 0);
        doc.due("tree(4, 0), from the nearer source", x.tree(4, 0), 4);
        doc.due("tree(4, 1), from the nearer source", x.tree(4, 1), -1);
        doc.due("tree(3, 0), a source", x.tree(3, 0), -1);
    }

    static void restBounds() {
        doc.about("Terms", "RESTS are numbers for the NODES (0 to 1000000; 0 at first).");
        LeastPaths x = doc.graph(0);
        for (int round = 0; round < 2; round++) {
            for (int n = 0; n < 10; n++) {
                doc.due("node()", x.node(), n);
                doc.due("rest(" + n + ", 1000000), at first", x.rest(n, 1000000), 0);
            }
            for (int v : Sentences.outside(1000001)) {
                doc.due("rest(4, " + v + ")", x.rest(4, v), -2);
            }
            for (int n = 0; n < 10; n++) {
                doc.due("rest(" + n + ", 1)", x.rest(n, 1), 1000000);
                doc.due("rest(" + n + ", 0)", x.rest(n, 0), 1);
                doc.due("rest(" + n + ", 999999)", x.rest(n, 999999), 0);
            }
            doc.due("clear()", x.clear(), 10);
        }
    }

    static void goodGoal() {
        doc.about("Terms", "They are GOOD for a goal, if it has 0");
        LeastPaths x = doc.graph(2);
        doc.due("good(0) at first", x.good(0), 1);
        doc.due("rest(0, 1)", x.rest(0, 1), 0);
        doc.due("good(0) with 1", x.good(0), 0);
        doc.due("good(1), another having 1, without arcs", x.good(1), 1);
        doc.due("rest(0, 1000000)", x.rest(0, 1000000), 1);
        doc.due("good(0) with the greatest", x.good(0), 0);
        doc.due("good(1), another having the greatest", x.good(1), 1);
        doc.due("rest(0, 0)", x.rest(0, 0), 1000000);
        doc.due("good(0) with 0 again", x.good(0), 1);
    }

    static void goodArcs() {
        doc.about("Terms", "for each ARC from u to v the REST of u is at most the WEIGHT and the REST of v");
        // The arc 0 -> 1 is on no way to the goal 2.
        LeastPaths x = doc.graph(3, 0, 1, 5);
        doc.due("rest(1, 10)", x.rest(1, 10), 0);
        doc.due("rest(0, 15)", x.rest(0, 15), 0);
        doc.due("good(2), the same", x.good(2), 1);
        doc.due("rest(0, 16)", x.rest(0, 16), 15);
        doc.due("good(2), one more", x.good(2), 0);
        doc.due("rest(1, 11)", x.rest(1, 11), 10);
        doc.due("good(2), the same again", x.good(2), 1);
        doc.due("arc(0, 1, 4), one at its side", x.arc(0, 1, 4), 1);
        doc.due("good(2), one of two too light", x.good(2), 0);
        doc.due("drop(1)", x.drop(1), 1);
        doc.due("good(2), that one dropped", x.good(2), 1);
        LeastPaths y = doc.graph(3, 0, 1, 1000000, 1, 0, 0);
        doc.due("rest(0, 1000000)", y.rest(0, 1000000), 0);
        doc.due("good(2), 1000000 and 0", y.good(2), 1);
        doc.due("rest(1, 1000000)", y.rest(1, 1000000), 0);
        doc.due("good(2), 1000000 and 1000000", y.good(2), 1);
        doc.due("rest(0, 999999)", y.rest(0, 999999), 1000000);
        doc.due("good(2), 0 and 999999 below 1000000", y.good(2), 0);
    }

    static void ledBegins() {
        doc.about("Terms", "LED from a to a goal: a has 0, others nothing yet.");
        LeastPaths x = doc.graph(2);
        doc.due("led(0, 1) without arcs", x.led(0, 1), 1);
        doc.due("ledTo(0, 1) without arcs", x.ledTo(0, 1), -3);
        doc.due("ledTo(0, 0)", x.ledTo(0, 0), 0);
        doc.due("rest(0, 1000000)", x.rest(0, 1000000), 0);
        doc.due("ledTo(0, 0), its rest not counted", x.ledTo(0, 0), 0);
        doc.due("source(1, true)", x.source(1, true), 0);
        doc.due("ledTo(0, 1), sources not counted", x.ledTo(0, 1), -3);
    }

    static void ledTakesTheLeast() {
        doc.about("Terms",
                "that have a number and are not SETTLED the one for which that and its REST together are least");
        LeastPaths x = doc.graph(4, 0, 1, 4, 0, 2, 6, 0, 3, 8);
        doc.due("led(0, 2), 1 before it", x.led(0, 2), 3);
        doc.due("rest(1, 3)", x.rest(1, 3), 0);
        doc.due("led(0, 2), 1 behind it with 7", x.led(0, 2), 2);
        doc.due("rest(3, 0)", x.rest(3, 0), 0);
        doc.due("led(0, 3), all before it", x.led(0, 3), 4);
        doc.due("rest(1, 1000000)", x.rest(1, 1000000), 3);
        doc.due("rest(2, 1000000)", x.rest(2, 1000000), 0);
        doc.due("led(0, 3), none before it", x.led(0, 3), 2);
        doc.due("rest(3, 1000000)", x.rest(3, 1000000), 0);
        doc.due("led(0, 3), all with the greatest", x.led(0, 3), 4);
    }

    static void ledTies() {
        doc.about("Terms", "of several the one with the least NODE, is SETTLED");
        // All have 3 with their rests; each node has as many before it as there are lesser ones.
        LeastPaths x = doc.graph(10, 9, 8, 3, 9, 7, 2, 9, 6, 1, 9, 5, 0, 9, 4, 3, 9, 3, 2, 9, 2, 1, 9, 1, 0, 9, 0, 3);
        int[] rests = {0, 3, 2, 1, 0, 3, 2, 1, 0};
        for (int n = 0; n < 9; n++) {
            doc.due("rest(" + n + ", " + rests[n] + ")", x.rest(n, rests[n]), 0);
        }
        for (int n = 0; n < 9; n++) {
            doc.due("led(9, " + n + ")", x.led(9, n), n + 2);
        }
    }

    static void ledEndsAtTheGoal() {
        doc.about("Terms", "is it the goal, it ends");
        LeastPaths x = doc.graph(3, 0, 1, 0, 1, 2, 0, 1, 0, 0);
        doc.due("led(0, 0)", x.led(0, 0), 1);
        doc.due("led(0, 1)", x.led(0, 1), 2);
        doc.due("led(0, 2)", x.led(0, 2), 3);
        doc.due("ledTo(0, 2)", x.ledTo(0, 2), 0);
    }

    static void ledLessens() {
        doc.about("Terms", "that gets this number and the WEIGHT, if it has nothing yet, or more");
        // 3 gets 9, then 8 by 1, then 7 by 2.
        LeastPaths x = doc.graph(4, 0, 3, 9, 0, 1, 1, 1, 3, 7, 0, 2, 2, 2, 3, 5);
        doc.due("ledTo(0, 3)", x.ledTo(0, 3), 7);
        doc.due("drop(4)", x.drop(4), 4);
        doc.due("ledTo(0, 3) without arc 4", x.ledTo(0, 3), 8);
        doc.due("arc(2, 3, 7), more than it has", x.arc(2, 3, 7), 5);
        doc.due("ledTo(0, 3), more is not taken", x.ledTo(0, 3), 8);
    }

    static void ledLeavesTheSettled() {
        doc.about("Terms", "else for each ARC from it to one that is not SETTLED");
        // 2 is settled with 5 before 1, which would give it 2; 3 comes behind 1 and keeps 10.
        LeastPaths x = doc.graph(4, 0, 1, 1, 1, 2, 1, 0, 2, 5, 2, 3, 5);
        doc.due("rest(1, 8)", x.rest(1, 8), 0);
        doc.due("rest(3, 0)", x.rest(3, 0), 0);
        doc.due("led(0, 3)", x.led(0, 3), 4);
        doc.due("ledTo(0, 3)", x.ledTo(0, 3), 10);
        doc.due("source(0, true)", x.source(0, true), 0);
        doc.due("distance(3), not led, though a led search was before", x.distance(3), 7);
        doc.due("kth(0, 3, 0), not led", x.kth(0, 3, 0), 7);
        doc.due("rest(1, 0)", x.rest(1, 0), 8);
        doc.due("ledTo(0, 3) without rests", x.ledTo(0, 3), 7);
    }

    static void ledEndsWithNone() {
        doc.about("Terms", "It ends, too, when there is none.");
        LeastPaths x = doc.graph(10);
        for (int n = 0; n < 8; n++) {
            doc.due("arc", x.arc(n, n + 1, 1), n);
        }
        for (int n = 0; n < 9; n++) {
            doc.due("led(" + n + ", 9)", x.led(n, 9), 9 - n);
            doc.due("ledTo(" + n + ", 9)", x.ledTo(n, 9), -3);
        }
        doc.due("arc(8, 0, 1)", x.arc(8, 0, 1), 8);
        doc.due("led(4, 9), round a ring", x.led(4, 9), 9);
    }

    static void bothDirections() {
        doc.about("Terms", "two searches like that, without RESTS, one from a along ARCS, one from b against them");
        LeastPaths x = doc.graph(3, 0, 1, 4, 1, 2, 4);
        // 0 by a, 2 by b: 1 has 4 and 4, which is 8.
        doc.due("both(0, 2)", x.both(0, 2), 2);
        doc.due("bothTo(0, 2)", x.bothTo(0, 2), 8);
        doc.due("both(2, 0)", x.both(2, 0), 1);
        doc.due("bothTo(2, 0)", x.bothTo(2, 0), -3);
        // Either side has two nodes with the same number; by its rest the least of them would be the later one.
        LeastPaths y = doc.graph(5, 0, 1, 1, 0, 2, 1, 3, 4, 10, 1, 3, 0);
        LeastPaths z = doc.graph(5, 1, 0, 1, 2, 0, 1, 4, 3, 10, 3, 1, 0);
        for (int rest : new int[] {0, 1, 1000000}) {
            y.rest(1, rest);
            z.rest(1, rest);
            doc.due("both(0, 4) with rest " + rest, y.both(0, 4), 3);
            doc.due("bothTo(0, 4) with rest " + rest, y.bothTo(0, 4), 11);
            doc.due("both(4, 0) with rest " + rest, z.both(4, 0), 3);
            doc.due("bothTo(4, 0) with rest " + rest, z.bothTo(4, 0), 11);
        }
    }

    static void bothTheSameIsOfA() {
        doc.about("Terms", "(the same, or both none: that of a;");
        // a has no arcs: after its first it has none. Were b on first, there would be one more.
        LeastPaths x = doc.graph(3, 2, 1, 5);
        doc.due("both(0, 1)", x.both(0, 1), 1);
        doc.due("bothTo(0, 1)", x.bothTo(0, 1), -3);
        // b has no arcs: a is on first, then b. Were b on first, there would be one less.
        LeastPaths y = doc.graph(3, 0, 2, 5);
        doc.due("both(0, 1)", y.both(0, 1), 2);
        doc.due("bothTo(0, 1)", y.bothTo(0, 1), -3);
    }

    static void bothTheLessIsOn() {
        doc.about("Terms", "Each time that side is on whose least number of NODES not SETTLED there is less");
        // 0 by a, 1 by b; then a has 2 with 3, b has 5 with 2, 6 with 3, 7 with 4:
        // 5 by b, then 2 by a (the same), which has no arcs: a has none.
        LeastPaths x = doc.graph(8, 0, 2, 3, 5, 1, 2, 6, 5, 1, 7, 6, 1);
        doc.due("both(0, 1)", x.both(0, 1), 4);
        doc.due("drop(0)", x.drop(0), 3);
        doc.due("arc(0, 2, 4)", x.arc(0, 2, 4), 4);
        // Now 5 and 6 by b, then 2 by a.
        doc.due("both(0, 1), one more", x.both(0, 1), 5);
        doc.due("drop(4)", x.drop(4), 3);
        doc.due("arc(0, 2, 1)", x.arc(0, 2, 1), 5);
        doc.due("both(0, 1), a being on before", x.both(0, 1), 3);
    }

    static void bothEndsWhenOneHasNone() {
        doc.about("Terms", "It ends when both sides have none, or one has none");
        LeastPaths none = doc.graph(2);
        doc.due("both(0, 1) without arcs", none.both(0, 1), 1);
        doc.due("both(1, 0) without arcs", none.both(1, 0), 1);
        doc.due("bothTo(0, 1) without arcs", none.bothTo(0, 1), -3);
        // b has a long row of nodes with no weight; a has a single arc of weight.
        LeastPaths x = doc.graph(6, 0, 1, 7, 3, 2, 0, 4, 3, 0, 5, 4, 0);
        // 0 by a, then 2, 3, 4, 5 by b: b has none, though 1 is left to a.
        doc.due("both(0, 2)", x.both(0, 2), 5);
        doc.due("bothTo(0, 2)", x.bothTo(0, 2), -3);
        // 2 by a, which has none then, though b has not begun.
        doc.due("both(2, 1)", x.both(2, 1), 1);
    }

    static void bothNotOnWithoutNodes() {
        doc.about("Terms", "a side that has none is on only if the other has none, too");
        // a has none after 0; b could settle 1, 2, 3, all with 0, but is not on any more.
        LeastPaths x = doc.graph(4, 2, 1, 0, 3, 2, 0);
        doc.due("both(0, 1), a has none", x.both(0, 1), 1);
        // 3, 2, 1 by a, all with 0; then a has none, and b is not on with its 0.
        doc.due("both(3, 0), a has none before b has begun", x.both(3, 0), 3);
        doc.due("drop(1)", x.drop(1), 1);
        doc.due("arc(3, 2, 1)", x.arc(3, 2, 1), 2);
        // 3 by a, 0 by b; then b has none, and a is not on with 2.
        doc.due("both(3, 0), b has none before a is through", x.both(3, 0), 2);
        doc.due("bothTo(3, 0)", x.bothTo(3, 0), -3);
    }

    static void bothEndsAtBest() {
        doc.about("Terms", "or the two least numbers together are not below BEST");
        // 0 by a, 1 by b: BEST is 10 by the arc; a has 2 with 5, b has 3 with 5: not below.
        LeastPaths x = doc.graph(4, 0, 1, 10, 0, 2, 5, 3, 1, 5);
        doc.due("both(0, 1), the same as BEST", x.both(0, 1), 2);
        doc.due("bothTo(0, 1)", x.bothTo(0, 1), 10);
        doc.due("drop(2)", x.drop(2), 2);
        doc.due("arc(3, 1, 4)", x.arc(3, 1, 4), 3);
        // 5 and 4 are below 10: 3 by b; then 5 and 10 are not.
        doc.due("both(0, 1), one below BEST", x.both(0, 1), 3);
        doc.due("bothTo(0, 1)", x.bothTo(0, 1), 10);
        doc.due("arc(2, 3, 0)", x.arc(2, 3, 0), 4);
        // 3 by b gives 2 a 4, which is 9 with its 5: then 5 and 4 are not below 9.
        doc.due("both(0, 1), a better one", x.both(0, 1), 3);
        doc.due("bothTo(0, 1), a better one", x.bothTo(0, 1), 9);
    }

    static void bothBestAtFirst() {
        doc.about("Terms", "the least sum of both numbers of a NODE that has both (none at first)");
        LeastPaths x = doc.graph(3, 0, 1, 0, 1, 0, 0);
        for (int n = 0; n < 3; n++) {
            doc.due("both(" + n + ", " + n + ")", x.both(n, n), 0);
            doc.due("bothTo(" + n + ", " + n + ")", x.bothTo(n, n), 0);
        }
        // None is not 0: 0 and 0 are below it, so 0 by a, which gives 1 a 0.
        doc.due("both(0, 1)", x.both(0, 1), 1);
        doc.due("bothTo(0, 1)", x.bothTo(0, 1), 0);
        doc.due("bothTo(0, 2)", x.bothTo(0, 2), -3);
    }

    static void bothSettleTheLeastNode() {
        doc.about("Terms", "Else that side SETTLES its NODE (as above).");
        // a has 1 and 2 with 1 each, b has 3 with 10. 1 by a gives 3 a 1, BEST is 11: that is the end.
        LeastPaths x = doc.graph(5, 0, 1, 1, 0, 2, 1, 3, 4, 10, 1, 3, 0);
        doc.due("both(0, 4), the least node leads on", x.both(0, 4), 3);
        doc.due("drop(3)", x.drop(3), 3);
        doc.due("arc(2, 3, 0)", x.arc(2, 3, 0), 4);
        doc.due("both(0, 4), the greater one leads on", x.both(0, 4), 4);
        // The same against the arcs.
        LeastPaths y = doc.graph(5, 1, 0, 1, 2, 0, 1, 4, 3, 10, 3, 1, 0);
        doc.due("both(4, 0), the least node leads on", y.both(4, 0), 3);
        doc.due("drop(3)", y.drop(3), 3);
        doc.due("arc(3, 2, 0)", y.arc(3, 2, 0), 4);
        doc.due("both(4, 0), the greater one leads on", y.both(4, 0), 4);
        doc.due("bothTo(4, 0)", y.bothTo(4, 0), 11);
    }

    static void rowByLength() {
        doc.about("Terms", "THE ROW of a, b: all SIMPLE WAYS from a to b, the least LENGTH first");
        LeastPaths x = doc.graph(3, 0, 2, 1000000, 0, 2, 2, 0, 1, 0, 1, 2, 1, 1, 2, 999999);
        int[] lengths = {1, 2, 999999, 1000000};
        int[] firsts = {2, 1, 2, 0};
        for (int k = 0; k < 4; k++) {
            doc.due("kth(0, 2, " + k + ")", x.kth(0, 2, k), lengths[k]);
            doc.due("kthArc(0, 2, " + k + ", 0)", x.kthArc(0, 2, k, 0), firsts[k]);
        }
        doc.due("kth(0, 2, 4)", x.kth(0, 2, 4), -3);
    }

    static void rowByArcs() {
        doc.about("Terms",
                "of the same the fewest ARCS first, of these that with the least number where they first differ.");
        // All have 3: arcs 0, 1, 2; 0, 4; 5, 2; 3.
        LeastPaths x = doc.graph(4, 0, 1, 1, 1, 2, 1, 2, 3, 1, 0, 3, 3, 1, 3, 2, 0, 2, 2);
        int[][] ways = {{3}, {0, 4}, {5, 2}, {0, 1, 2}};
        for (int k = 0; k < 4; k++) {
            doc.due("kth(0, 3, " + k + ")", x.kth(0, 3, k), 3);
            for (int i = 0; i < ways[k].length; i++) {
                doc.due("kthArc(0, 3, " + k + ", " + i + ")", x.kthArc(0, 3, k, i), ways[k][i]);
            }
            doc.due("kthArc(0, 3, " + k + ") behind the last", x.kthArc(0, 3, k, ways[k].length), -1);
        }
        doc.due("kth(0, 3, 4)", x.kth(0, 3, 4), -3);
    }

    static void rowByNumbers() {
        doc.about("Terms", "of these that with the least number where they first differ.");
        // Two arcs from 0 to 1, three from 1 to 2: the second arc changes first, whatever was found first.
        LeastPaths x = doc.graph(3, 1, 2, 1, 0, 1, 1, 1, 2, 1, 0, 1, 1, 1, 2, 1);
        int[][] ways = {{1, 0}, {1, 2}, {1, 4}, {3, 0}, {3, 2}, {3, 4}};
        for (int k = 0; k < 6; k++) {
            doc.due("kthArc(0, 2, " + k + ", 0)", x.kthArc(0, 2, k, 0), ways[k][0]);
            doc.due("kthArc(0, 2, " + k + ", 1)", x.kthArc(0, 2, k, 1), ways[k][1]);
        }
        doc.due("kth(0, 2, 6)", x.kth(0, 2, 6), -3);
        // The full graph: way 29 of 640000 is, from the last step on, 29 = 1 + 3 * 4 + 1 * 16.
        LeastPaths y = doc.full(1);
        int[] last = {0, 1, 2, 3, 4, 5, 15, 34, 17};
        for (int i = 0; i < 9; i++) {
            doc.due("kthArc(0, 9, 0, " + i + ")", y.kthArc(0, 9, 0, i), i);
            doc.due("kthArc(0, 9, 29, " + i + ")", y.kthArc(0, 9, 29, i), last[i]);
        }
    }

    static void widths() {
        doc.about("Terms", "The WIDTH of a WAY is the least WEIGHT of its ARCS");
        LeastPaths x = doc.graph(4, 0, 1, 1000000, 1, 2, 1000000, 2, 3, 0);
        doc.due("widest(0, 1)", x.widest(0, 1), 1000000);
        doc.due("widest(0, 2)", x.widest(0, 2), 1000000);
        doc.due("widest(0, 3), of no weight", x.widest(0, 3), 0);
        doc.due("arc(0, 3, 1)", x.arc(0, 3, 1), 3);
        doc.due("widest(0, 3)", x.widest(0, 3), 1);
    }

    static void trusts() {
        doc.about("Terms", "its TRUST the product of their SHARES");
        LeastPaths x = doc.graph(3, 0, 1, 1, 1, 2, 1);
        doc.due("trust(0, 2, 0) at first", x.trust(0, 2, 0), 1);
        doc.due("share(0, 5, 7)", x.share(0, 5, 7), 1);
        doc.due("share(1, 8, 9)", x.share(1, 8, 9), 1);
        doc.due("trust(0, 2, 0)", x.trust(0, 2, 0), 40);
        doc.due("trust(0, 2, 1)", x.trust(0, 2, 1), 63);
        doc.due("share(1, 0, 3)", x.share(1, 0, 3), 1);
        doc.due("trust(0, 2, 0) of none", x.trust(0, 2, 0), 0);
        doc.due("trust(0, 2, 1) of none", x.trust(0, 2, 1), 1);
        doc.due("trust(0, 1, 1)", x.trust(0, 1, 1), 7);
    }

    static void ringsOfTwoToTen() {
        doc.about("Terms",
                "A RING is a WAY of at least two ARCS from a NODE to itself that comes to no other NODE twice");
        LeastPaths none = doc.graph(2, 0, 1, 1, 0, 1, 1);
        doc.due("ring() of arcs side by side", none.ring(), -3);
        doc.due("ringArc(0) of arcs side by side", none.ringArc(0), -3);
        for (int size = 2; size <= 10; size++) {
            LeastPaths x = doc.graph(size);
            for (int n = 0; n < size; n++) {
                doc.due("ring() not closed", x.ring(), -3);
                doc.due("arc " + n, x.arc(n, (n + 1) % size, 3), n);
            }
            doc.due("ring() of " + size, x.ring(), 3 * size);
            for (int i = 0; i < size; i++) {
                doc.due("ringArc(" + i + ")", x.ringArc(i), i);
            }
            doc.due("ringArc(" + size + ")", x.ringArc(size), -1);
        }
    }

    static void ringsAreToldFromTheLeast() {
        doc.about("Terms", "told from the ARC of its least number on");
        // 2 -> 0 is 0, 0 -> 1 is 2, 1 -> 2 is 1: told 0, 2, 1. Arc 3 is in no ring.
        LeastPaths x = doc.graph(4, 2, 0, 1, 1, 2, 1, 0, 1, 1, 0, 3, 0);
        int[] told = {0, 2, 1};
        for (int i = 0; i < 3; i++) {
            doc.due("ringArc(" + i + ")", x.ringArc(i), told[i]);
        }
        doc.due("drop(0)", x.drop(0), 3);
        doc.due("arc(2, 0, 1)", x.arc(2, 0, 1), 4);
        int[] toldThen = {1, 4, 2};
        for (int i = 0; i < 3; i++) {
            doc.due("ringArc(" + i + "), arc 0 being 4 now", x.ringArc(i), toldThen[i]);
        }
    }

    static void theRing() {
        doc.about("Terms",
                "THE RING has the least LENGTH, of these the fewest ARCS, of these the least number where they "
                        + "first differ.");
        // Arcs 0, 1 have 8; arcs 2, 3, 4 have 6.
        LeastPaths x = doc.graph(5, 0, 1, 4, 1, 0, 4, 2, 3, 2, 3, 4, 2, 4, 2, 2);
        doc.due("ring(), the least", x.ring(), 6);
        doc.due("ringArc(0), the least", x.ringArc(0), 2);
        doc.due("arc(4, 3, 4)", x.arc(4, 3, 4), 5);
        doc.due("ring(), the fewest", x.ring(), 6);
        doc.due("ringArc(0), the fewest", x.ringArc(0), 3);
        doc.due("ringArc(1), the fewest", x.ringArc(1), 5);
        doc.due("arc(1, 0, 2)", x.arc(1, 0, 2), 6);
        doc.due("ringArc(0), the least number first", x.ringArc(0), 0);
        doc.due("ringArc(1), the least number first", x.ringArc(1), 6);
        doc.due("arc(1, 0, 2)", x.arc(1, 0, 2), 7);
        doc.due("ringArc(1), the least number then", x.ringArc(1), 6);
        doc.due("drop(6)", x.drop(6), 7);
        doc.due("ringArc(1), the one left", x.ringArc(1), 7);
    }
}
