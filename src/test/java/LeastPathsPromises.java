/** Each promise of the document, by calls whose answers were worked out by hand from its words. */
public final class LeastPathsPromises {
    private static final int LOW = Integer.MIN_VALUE;
    private static final int HIGH = Integer.MAX_VALUE;

    private static int wrong = 0;
    private static int heap = 1;

    private static void due(int promise, String what, int got, int want) {
        if (got != want) {
            wrong++;
            System.out.println(
                    "promise " + promise + ", heap " + heap + ": " + what + " answered " + got + ", due is " + want);
        }
    }

    /** A graph with so many nodes and these arcs, three numbers each: from, to, weight. */
    private static LeastPaths graph(int nodes, int... arcs) {
        LeastPaths x = new LeastPaths(heap);
        for (int n = 0; n < nodes; n++) {
            due(3, "node()", x.node(), n);
        }
        for (int i = 0; i + 2 < arcs.length; i += 3) {
            due(4, "arc " + i / 3, x.arc(arcs[i], arcs[i + 1], arcs[i + 2]), i / 3);
        }
        return x;
    }

    public static void main(String[] args) {
        newObject();
        for (heap = 1; heap <= 3; heap++) {
            nodes();
            arcs();
            arcsRunOut();
            shares();
            drops();
            sources();
            rests();
            clears();
            trees();
            treeTies();
            manyWays();
            reaches();
            goodRests();
            ledSearches();
            ledAstray();
            ledTies();
            bothSides();
            bothSidesEnd();
            row();
            rowTies();
            rowIsSimple();
            longRow();
            widest();
            trust();
            trustGreatestTerms();
            rings();
            ringTies();
            missed();
            missedTies();
            greatest();
        }
        System.out.println(wrong == 0 ? "all answers are as due" : wrong + " answers are not as due");
        if (wrong != 0) {
            System.exit(1);
        }
    }

    private static void newObject() {
        int[] told = {LOW, -1, 0, 1, 2, 3, 4, HIGH};
        int[] kept = {1, 1, 1, 1, 2, 3, 3, 3};
        for (int i = 0; i < told.length; i++) {
            LeastPaths x = new LeastPaths(told[i]);
            due(2, "heap() of " + told[i], x.heap(), kept[i]);
            due(1, "distance(0)", x.distance(0), -1);
            due(1, "reached()", x.reached(), 0);
            due(1, "ring()", x.ring(), -3);
            due(1, "clear()", x.clear(), 0);
            due(1, "node()", x.node(), 0);
            due(2, "heap() later", x.heap(), kept[i]);
            x.clear();
            due(2, "heap() after clear()", x.heap(), kept[i]);
        }
    }

    private static void nodes() {
        LeastPaths x = graph(10);
        due(3, "node 11", x.node(), -4);
        due(3, "node 11 again", x.node(), -4);
        due(3, "rest(9, 0)", x.rest(9, 0), 0);
        due(3, "rest(10, 0)", x.rest(10, 0), -1);
    }

    private static void arcs() {
        LeastPaths x = graph(2);
        due(4, "arc(0, 2, 1)", x.arc(0, 2, 1), -1);
        due(4, "arc(2, 0, 1)", x.arc(2, 0, 1), -1);
        due(4, "arc(-1, 0, 1)", x.arc(-1, 0, 1), -1);
        due(4, "arc(0, -1, 1)", x.arc(0, -1, 1), -1);
        due(4, "arc(LOW, HIGH, 1)", x.arc(LOW, HIGH, 1), -1);
        due(4, "arc(1, 1, 1)", x.arc(1, 1, 1), -1);
        due(4, "arc(1, 1, -1)", x.arc(1, 1, -1), -1);
        due(4, "arc(0, 1, -1)", x.arc(0, 1, -1), -2);
        due(4, "arc(0, 1, 1000001)", x.arc(0, 1, 1000001), -2);
        due(4, "arc(0, 1, LOW)", x.arc(0, 1, LOW), -2);
        due(4, "arc(0, 1, HIGH)", x.arc(0, 1, HIGH), -2);
        due(4, "arc(0, 1, 1000000)", x.arc(0, 1, 1000000), 0);
        due(4, "kth(0, 1, 0)", x.kth(0, 1, 0), 1000000);
        due(4, "arc(0, 1, 0)", x.arc(0, 1, 0), 1);
        due(4, "kth(0, 1, 0)", x.kth(0, 1, 0), 0);
        due(4, "kth(1, 0, 0)", x.kth(1, 0, 0), -3);
    }

    private static void arcsRunOut() {
        LeastPaths x = graph(2);
        for (int e = 0; e < 40; e++) {
            due(4, "arc " + e, x.arc(e % 2, 1 - e % 2, e), e);
        }
        due(4, "arc 40", x.arc(0, 1, 1), -4);
        due(6, "drop(39)", x.drop(39), 39);
        due(4, "arc 40, a dropped one being counted", x.arc(0, 1, 1), -4);
        due(4, "arc(0, 0, 1) without room", x.arc(0, 0, 1), -1);
        due(4, "arc(0, 1, -1) without room", x.arc(0, 1, -1), -2);
        due(9, "clear()", x.clear(), 2);
        x.node();
        x.node();
        due(9, "arc after clear()", x.arc(0, 1, 1), 0);
    }

    private static void shares() {
        LeastPaths x = graph(2, 0, 1, 5);
        due(5, "trust above at first", x.trust(0, 1, 0), 1);
        due(5, "trust below at first", x.trust(0, 1, 1), 1);
        due(5, "share(1, 1, 1)", x.share(1, 1, 1), -1);
        due(5, "share(-1, 1, 1)", x.share(-1, 1, 1), -1);
        due(5, "share(LOW, 5, 4)", x.share(LOW, 5, 4), -1);
        due(5, "share(HIGH, 5, 4)", x.share(HIGH, 5, 4), -1);
        due(5, "share(0, 0, 0)", x.share(0, 0, 0), -2);
        due(5, "share(0, 1, 10)", x.share(0, 1, 10), -2);
        due(5, "share(0, -1, 5)", x.share(0, -1, 5), -2);
        due(5, "share(0, 6, 5)", x.share(0, 6, 5), -2);
        due(5, "share(0, LOW, LOW)", x.share(0, LOW, LOW), -2);
        due(5, "share(0, HIGH, HIGH)", x.share(0, HIGH, HIGH), -2);
        due(5, "trust below after refusals", x.trust(0, 1, 1), 1);
        due(5, "share(0, 8, 9)", x.share(0, 8, 9), 1);
        due(5, "trust above", x.trust(0, 1, 0), 8);
        due(5, "trust below", x.trust(0, 1, 1), 9);
        due(5, "share(0, 9, 9)", x.share(0, 9, 9), 1);
        due(5, "trust below of 9 of 9", x.trust(0, 1, 1), 1);
        due(5, "share(0, 0, 1)", x.share(0, 0, 1), 1);
        due(5, "trust above of 0 of 1", x.trust(0, 1, 0), 0);
        due(5, "share(0, 1, 1)", x.share(0, 1, 1), 1);
        due(5, "trust above of 1 of 1", x.trust(0, 1, 0), 1);
        x.drop(0);
        due(5, "share(0, 1, 1) of a dropped one", x.share(0, 1, 1), -1);
    }

    private static void drops() {
        LeastPaths x = graph(3, 0, 1, 5, 1, 2, 5, 0, 2, 20);
        x.source(0, true);
        due(6, "drop(3)", x.drop(3), -1);
        due(6, "drop(-1)", x.drop(-1), -1);
        due(6, "drop(LOW)", x.drop(LOW), -1);
        due(6, "drop(HIGH)", x.drop(HIGH), -1);
        due(6, "distance(2)", x.distance(2), 10);
        due(6, "drop(1)", x.drop(1), 2);
        due(6, "drop(1) again", x.drop(1), -1);
        due(6, "distance(2) without it", x.distance(2), 20);
        due(6, "kth(0, 2, 0)", x.kth(0, 2, 0), 20);
        due(6, "ledTo(0, 2)", x.ledTo(0, 2), 20);
        due(6, "bothTo(0, 2)", x.bothTo(0, 2), 20);
        due(6, "the next arc", x.arc(1, 2, 1), 3);
        due(6, "drop(0)", x.drop(0), 2);
        due(6, "drop(2)", x.drop(2), 1);
        due(6, "widest(0, 2)", x.widest(0, 2), -3);
        due(6, "drop(3)", x.drop(3), 0);
    }

    private static void sources() {
        LeastPaths x = graph(2);
        due(7, "source(2, true)", x.source(2, true), -1);
        due(7, "source(-1, false)", x.source(-1, false), -1);
        due(7, "source(LOW, true)", x.source(LOW, true), -1);
        due(7, "source(HIGH, true)", x.source(HIGH, true), -1);
        due(7, "reached()", x.reached(), 0);
        due(7, "source(1, true)", x.source(1, true), 0);
        due(7, "source(1, true)", x.source(1, true), 1);
        due(7, "source(0, false)", x.source(0, false), 0);
        due(7, "reached()", x.reached(), 2);
        due(7, "source(1, false)", x.source(1, false), 1);
        due(7, "source(1, false)", x.source(1, false), 0);
        due(7, "reached()", x.reached(), 0);
    }

    private static void rests() {
        LeastPaths x = graph(2);
        due(8, "rest(2, 0)", x.rest(2, 0), -1);
        due(8, "rest(-1, -1)", x.rest(-1, -1), -1);
        due(8, "rest(HIGH, 0)", x.rest(HIGH, 0), -1);
        due(8, "rest(LOW, 0)", x.rest(LOW, 0), -1);
        due(8, "rest(1, -1)", x.rest(1, -1), -2);
        due(8, "rest(1, 1000001)", x.rest(1, 1000001), -2);
        due(8, "rest(1, LOW)", x.rest(1, LOW), -2);
        due(8, "rest(1, HIGH)", x.rest(1, HIGH), -2);
        due(8, "rest(1, 1000000)", x.rest(1, 1000000), 0);
        due(8, "rest(1, 7)", x.rest(1, 7), 1000000);
        due(8, "rest(1, 7)", x.rest(1, 7), 7);
        due(8, "rest(0, 0)", x.rest(0, 0), 0);
    }

    private static void clears() {
        LeastPaths x = graph(3, 0, 1, 5, 1, 0, 5);
        x.source(0, true);
        x.rest(1, 9);
        x.share(0, 1, 2);
        due(9, "clear()", x.clear(), 3);
        due(9, "clear() again", x.clear(), 0);
        due(9, "distance(0)", x.distance(0), -1);
        due(9, "drop(0)", x.drop(0), -1);
        due(9, "share(0, 1, 1)", x.share(0, 1, 1), -1);
        due(9, "ring()", x.ring(), -3);
        due(9, "reached()", x.reached(), 0);
        due(9, "node()", x.node(), 0);
        due(9, "node()", x.node(), 1);
        due(9, "reached() with new nodes", x.reached(), 0);
        due(9, "kth(0, 1, 0)", x.kth(0, 1, 0), -3);
        due(9, "rest(1, 0)", x.rest(1, 0), 0);
        due(9, "arc(0, 1, 6)", x.arc(0, 1, 6), 0);
        due(9, "trust below", x.trust(0, 1, 1), 1);
        due(9, "drop(0)", x.drop(0), 0);
    }

    private static void trees() {
        // 0 -> 1 -> 2 -> 3 with 1 each, 0 -> 3 with 3; 4 is a source too, 4 -> 3 with 9; 5 is not reached.
        LeastPaths x = graph(6, 0, 1, 1, 1, 2, 1, 2, 3, 1, 0, 3, 3, 4, 3, 9, 3, 4, 0, 5, 0, 1);
        due(10, "distance(0) without sources", x.distance(0), -3);
        due(11, "hops(0) without sources", x.hops(0), -3);
        due(12, "step(0) without sources", x.step(0), -3);
        due(13, "ways(0) without sources", x.ways(0), 0);
        due(14, "tree(0, 0) without sources", x.tree(0, 0), -3);
        due(15, "reached() without sources", x.reached(), 0);
        x.source(0, true);
        x.source(4, true);
        for (int n : new int[] {-1, 6, LOW, HIGH}) {
            due(10, "distance(" + n + ")", x.distance(n), -1);
            due(11, "hops(" + n + ")", x.hops(n), -1);
            due(12, "step(" + n + ")", x.step(n), -1);
            due(13, "ways(" + n + ")", x.ways(n), -1);
            due(14, "tree(" + n + ", 0)", x.tree(n, 0), -1);
        }
        due(15, "reached()", x.reached(), 0b11111);
        int[] distance = {0, 1, 2, 3, 0, -3};
        int[] hops = {0, 1, 2, 1, 0, -3};
        int[] step = {-3, 0, 1, 3, -3, -3};
        int[] ways = {1, 1, 1, 1, 1, 0};
        for (int n = 0; n < 6; n++) {
            due(10, "distance(" + n + ")", x.distance(n), distance[n]);
            due(11, "hops(" + n + ")", x.hops(n), hops[n]);
            due(12, "step(" + n + ")", x.step(n), step[n]);
            due(13, "ways(" + n + ")", x.ways(n), ways[n]);
        }
        due(14, "tree(2, 0)", x.tree(2, 0), 0);
        due(14, "tree(2, 1)", x.tree(2, 1), 1);
        due(14, "tree(2, 2)", x.tree(2, 2), -1);
        due(14, "tree(2, -1)", x.tree(2, -1), -1);
        due(14, "tree(2, LOW)", x.tree(2, LOW), -1);
        due(14, "tree(2, HIGH)", x.tree(2, HIGH), -1);
        due(14, "tree(3, 0)", x.tree(3, 0), 3);
        due(14, "tree(0, 0)", x.tree(0, 0), -1);
        due(14, "tree(5, 0)", x.tree(5, 0), -3);
        due(14, "tree(5, -1)", x.tree(5, -1), -3);
        x.drop(3);
        due(11, "hops(3) the long way", x.hops(3), 3);
        due(14, "tree(3, 0) the long way", x.tree(3, 0), 0);
        due(14, "tree(3, 1) the long way", x.tree(3, 1), 1);
        due(14, "tree(3, 2) the long way", x.tree(3, 2), 2);
    }

    private static void treeTies() {
        // Two ways to 3 with the same length and arcs: by 2 (arcs 0, 3) and by 1 (arcs 1, 2).
        LeastPaths x = graph(5, 0, 2, 4, 0, 1, 4, 1, 3, 4, 2, 3, 4, 3, 4, 0, 0, 3, 8, 0, 3, 8);
        x.source(0, true);
        due(12, "step(3), the fewest arcs first", x.step(3), 5);
        due(13, "ways(3) by arcs side by side", x.ways(3), 2);
        x.drop(5);
        x.drop(6);
        due(12, "step(3), the least arc though its way begins with a greater one", x.step(3), 2);
        due(14, "tree(3, 0)", x.tree(3, 0), 1);
        due(14, "tree(4, 0)", x.tree(4, 0), 1);
        due(14, "tree(4, 1)", x.tree(4, 1), 2);
        due(14, "tree(4, 2)", x.tree(4, 2), 4);
        due(13, "ways(3)", x.ways(3), 2);
        due(13, "ways(4)", x.ways(4), 2);
        x.source(2, true);
        due(13, "ways(3) from the nearer source", x.ways(3), 1);
        due(12, "step(3) from the nearer source", x.step(3), 3);
        x.source(1, true);
        due(13, "ways(3) from two sources", x.ways(3), 2);
        due(12, "step(3) from two sources", x.step(3), 2);
        due(13, "ways(1)", x.ways(1), 1);
        // Arcs of no weight: a source has no step, though an arc comes to it from another one.
        LeastPaths y = graph(3, 0, 1, 0, 1, 0, 0, 1, 2, 0, 0, 2, 0);
        y.source(0, true);
        y.source(1, true);
        due(12, "step(0) beside another source", y.step(0), -3);
        due(13, "ways(0) beside another source", y.ways(0), 1);
        due(12, "step(2)", y.step(2), 2);
        due(13, "ways(2)", y.ways(2), 2);
    }

    private static void manyWays() {
        LeastPaths x = graph(10);
        for (int i = 0; i < 36; i++) {
            x.arc(i / 4, i / 4 + 1, 1000000);
        }
        x.source(0, true);
        due(10, "distance(9) of the greatest", x.distance(9), 9000000);
        due(11, "hops(9)", x.hops(9), 9);
        due(12, "step(9)", x.step(9), 32);
        due(13, "ways(9)", x.ways(9), 262144);
        due(14, "tree(9, 8)", x.tree(9, 8), 32);
        due(14, "tree(9, 0)", x.tree(9, 0), 0);
        due(14, "tree(9, 9)", x.tree(9, 9), -1);
        for (int i = 0; i < 4; i++) {
            x.arc(i, i + 1, 1000000);
        }
        due(13, "ways(9) with all arcs", x.ways(9), 640000);
    }

    private static void reaches() {
        LeastPaths x = graph(10, 8, 9, 0, 9, 7, 1000000);
        x.source(8, true);
        due(15, "reached()", x.reached(), 0b1110000000);
        x.source(0, true);
        due(15, "reached() from two", x.reached(), 0b1110000001);
        x.drop(0);
        due(15, "reached() without an arc", x.reached(), 0b0100000001);
    }

    private static void goodRests() {
        LeastPaths x = graph(3, 0, 1, 3, 1, 2, 4);
        due(16, "good(3)", x.good(3), -1);
        due(16, "good(-1)", x.good(-1), -1);
        due(16, "good(LOW)", x.good(LOW), -1);
        due(16, "good(HIGH)", x.good(HIGH), -1);
        due(16, "good(2) with none", x.good(2), 1);
        x.rest(1, 4);
        x.rest(0, 7);
        due(16, "good(2) with all that is left", x.good(2), 1);
        due(16, "good(1), it has a rest", x.good(1), 0);
        x.rest(0, 8);
        due(16, "good(2) with one too great", x.good(2), 0);
        x.drop(0);
        due(16, "good(2) without the arc", x.good(2), 1);
        x.rest(2, 1);
        due(16, "good(2), it has a rest", x.good(2), 0);
    }

    private static void ledSearches() {
        LeastPaths x = graph(5, 0, 1, 1, 1, 2, 1, 0, 3, 1, 3, 4, 1);
        int[][] others = {{5, 0}, {0, 5}, {-1, 0}, {0, -1}, {LOW, HIGH}};
        for (int[] pair : others) {
            due(17, "led of no node", x.led(pair[0], pair[1]), -1);
            due(18, "ledTo of no node", x.ledTo(pair[0], pair[1]), -1);
        }
        due(17, "led(0, 2)", x.led(0, 2), 4);
        due(18, "ledTo(0, 2)", x.ledTo(0, 2), 2);
        x.rest(3, 10);
        due(17, "led(0, 2) away from 3", x.led(0, 2), 3);
        due(17, "led(0, 0)", x.led(0, 0), 1);
        due(18, "ledTo(0, 0)", x.ledTo(0, 0), 0);
        due(17, "led(1, 0), not reached", x.led(1, 0), 2);
        due(18, "ledTo(1, 0), not reached", x.ledTo(1, 0), -3);
        due(17, "led(4, 0)", x.led(4, 0), 1);
    }

    private static void ledAstray() {
        // The rest of 1 is too great, so 2 is settled by the dear arc before 1 has offered the cheap one.
        LeastPaths x = graph(4, 0, 1, 1, 1, 2, 1, 0, 2, 5, 2, 3, 5);
        due(18, "ledTo(0, 3) without rests", x.ledTo(0, 3), 7);
        x.rest(1, 6);
        due(17, "led(0, 3) astray", x.led(0, 3), 4);
        due(18, "ledTo(0, 3) astray, a settled one keeps its number", x.ledTo(0, 3), 10);
        due(18, "bothTo(0, 3) takes no rests", x.bothTo(0, 3), 7);
        x.source(0, true);
        due(10, "distance(3) takes no rests", x.distance(3), 7);
        due(21, "kth(0, 3, 0) takes no rests", x.kth(0, 3, 0), 7);
        due(27, "missed(0, 3) takes no rests", x.missed(0, 3), 3);
        x.rest(1, 1000000);
        due(17, "led(0, 3) far astray", x.led(0, 3), 3);
        due(18, "ledTo(0, 3) far astray", x.ledTo(0, 3), 10);
    }

    private static void ledTies() {
        // 1, 2 and 3 have the same number: 1 and 2 are settled before the goal 3 gets its turn.
        LeastPaths x = graph(4, 0, 3, 2, 0, 2, 2, 0, 1, 2);
        due(17, "led(0, 3), the least node first", x.led(0, 3), 4);
        due(17, "led(0, 1), the least node first", x.led(0, 1), 2);
        x.rest(1, 1);
        due(17, "led(0, 3), number and rest together", x.led(0, 3), 3);
        // A node with more arcs of no weight on its way is not later for it.
        LeastPaths y = graph(4, 0, 2, 0, 2, 1, 0, 0, 3, 0);
        due(17, "led(0, 3), arcs do not count", y.led(0, 3), 4);
    }

    private static void bothSides() {
        LeastPaths x = graph(5, 0, 1, 2, 1, 2, 2, 2, 3, 2, 3, 4, 2);
        int[][] others = {{5, 0}, {0, 5}, {-1, 0}, {0, -1}, {LOW, HIGH}};
        for (int[] pair : others) {
            due(19, "both of no node", x.both(pair[0], pair[1]), -1);
            due(20, "bothTo of no node", x.bothTo(pair[0], pair[1]), -1);
        }
        // 0 by a, 4 by b, 1 by a, 3 by b: 2 has 4 on either side, and 4 and 4 are not below 8.
        due(19, "both(0, 4)", x.both(0, 4), 4);
        due(20, "bothTo(0, 4)", x.bothTo(0, 4), 8);
        due(19, "both(2, 2)", x.both(2, 2), 0);
        due(20, "bothTo(2, 2)", x.bothTo(2, 2), 0);
        due(19, "both(4, 0), a has none after its first", x.both(4, 0), 1);
        due(20, "bothTo(4, 0)", x.bothTo(4, 0), -3);
        // 2 by a (the same), 1 by b (0 is less than 2), 3 by a (the same), 0 by b (2 is less than 4): b has none.
        due(19, "both(2, 1)", x.both(2, 1), 4);
        due(20, "bothTo(2, 1)", x.bothTo(2, 1), -3);
    }

    private static void bothSidesEnd() {
        // The first meeting is not the best: 0 -> 1 -> 3 has 10, 0 -> 2 -> 4 -> 3 has 9.
        LeastPaths x = graph(5, 0, 1, 5, 1, 3, 5, 0, 2, 3, 2, 4, 3, 4, 3, 3);
        // 0 by a, 3 by b: 1 has 5 and 5, 2 has 3, 4 has 3. 3 and 3 are below 10: 2 by a gives 4 a 6, BEST is 9;
        // then 5 and 3 are below 9: 4 by b; 5 and 5 are not below 9.
        due(19, "both(0, 3)", x.both(0, 3), 4);
        due(20, "bothTo(0, 3)", x.bothTo(0, 3), 9);
        // The least node first on the side of b too: 1 and 2 have the same number against the arcs.
        LeastPaths y = graph(4, 2, 3, 1, 1, 3, 1, 0, 1, 9, 0, 2, 2);
        // 0 by a (1: 9, 2: 2), 3 by b (1: 1, 2: 1; BEST 3), 2 and 1 are not below 3.
        due(19, "both(0, 3), ends at once", y.both(0, 3), 2);
        due(20, "bothTo(0, 3)", y.bothTo(0, 3), 3);
        // Rests change nothing, on neither side.
        for (int n = 0; n < 5; n++) {
            x.rest(n, n == 2 || n == 4 ? 1000000 : 0);
        }
        due(19, "both(0, 3) with rests", x.both(0, 3), 4);
        due(20, "bothTo(0, 3) with rests", x.bothTo(0, 3), 9);
        LeastPaths z = graph(2, 0, 1, 0);
        // 0 and 0 are below none: 0 by a gives 1 a 0, BEST is 0.
        due(19, "both(0, 1) with no weight", z.both(0, 1), 1);
        due(20, "bothTo(0, 1) with no weight", z.bothTo(0, 1), 0);
    }

    private static void row() {
        LeastPaths x = graph(4, 0, 1, 1, 1, 3, 1, 0, 2, 1, 2, 3, 2, 0, 3, 3, 1, 2, 0);
        int[][] others = {{4, 0}, {0, 4}, {-1, 0}, {0, -1}, {LOW, HIGH}};
        for (int[] pair : others) {
            due(21, "kth of no node", x.kth(pair[0], pair[1], 30), -1);
            due(22, "kthArc of no node", x.kthArc(pair[0], pair[1], 30, 0), -1);
        }
        for (int k : new int[] {-1, 30, LOW, HIGH}) {
            due(21, "kth(0, 3, " + k + ")", x.kth(0, 3, k), -2);
            due(22, "kthArc(0, 3, " + k + ", 0)", x.kthArc(0, 3, k, 0), -2);
        }
        int[][] ways = {{0, 1}, {4}, {2, 3}, {0, 5, 3}};
        int[] lengths = {2, 3, 3, 3};
        for (int k = 0; k < ways.length; k++) {
            due(21, "kth(0, 3, " + k + ")", x.kth(0, 3, k), lengths[k]);
            for (int i = 0; i < ways[k].length; i++) {
                due(22, "kthArc(0, 3, " + k + ", " + i + ")", x.kthArc(0, 3, k, i), ways[k][i]);
            }
            for (int i : new int[] {ways[k].length, -1, LOW, HIGH}) {
                due(22, "kthArc(0, 3, " + k + ", " + i + ")", x.kthArc(0, 3, k, i), -1);
            }
        }
        due(21, "kth(0, 3, 4)", x.kth(0, 3, 4), -3);
        due(21, "kth(0, 3, 29)", x.kth(0, 3, 29), -3);
        due(22, "kthArc(0, 3, 4, -1)", x.kthArc(0, 3, 4, -1), -3);
        due(21, "kth(3, 0, 0)", x.kth(3, 0, 0), -3);
        due(21, "kth(1, 1, 0)", x.kth(1, 1, 0), 0);
        due(22, "kthArc(1, 1, 0, 0)", x.kthArc(1, 1, 0, 0), -1);
        due(21, "kth(1, 1, 1)", x.kth(1, 1, 1), -3);
        due(22, "kthArc(1, 1, 1, 0)", x.kthArc(1, 1, 1, 0), -3);
    }

    private static void rowTies() {
        // Arcs side by side, all the same: the ways are ordered by the first arc, then by the second.
        LeastPaths x = graph(3, 1, 2, 1, 0, 1, 1, 1, 2, 1, 0, 1, 1, 1, 2, 1);
        int[][] ways = {{1, 0}, {1, 2}, {1, 4}, {3, 0}, {3, 2}, {3, 4}};
        for (int k = 0; k < ways.length; k++) {
            due(21, "kth(0, 2, " + k + ")", x.kth(0, 2, k), 2);
            due(22, "kthArc(0, 2, " + k + ", 0)", x.kthArc(0, 2, k, 0), ways[k][0]);
            due(22, "kthArc(0, 2, " + k + ", 1)", x.kthArc(0, 2, k, 1), ways[k][1]);
        }
        due(21, "kth(0, 2, 6)", x.kth(0, 2, 6), -3);
    }

    private static void rowIsSimple() {
        // Rings of no weight give no way more.
        LeastPaths x = graph(4, 0, 1, 0, 1, 0, 0, 1, 2, 0, 2, 1, 0, 2, 3, 0, 3, 2, 0);
        due(21, "kth(0, 3, 0)", x.kth(0, 3, 0), 0);
        due(21, "kth(0, 3, 1)", x.kth(0, 3, 1), -3);
        due(21, "kth(3, 0, 0)", x.kth(3, 0, 0), 0);
        due(22, "kthArc(3, 0, 0, 0)", x.kthArc(3, 0, 0, 0), 5);
        due(22, "kthArc(3, 0, 0, 2)", x.kthArc(3, 0, 0, 2), 1);
        due(21, "kth(3, 0, 1)", x.kth(3, 0, 1), -3);
        // A way that leaves 1, 2, 3 at 2 must not go by 1 again.
        LeastPaths y = graph(4, 1, 2, 1, 2, 3, 1, 2, 1, 1, 1, 3, 9);
        due(21, "kth(1, 3, 0)", y.kth(1, 3, 0), 2);
        due(21, "kth(1, 3, 1)", y.kth(1, 3, 1), 9);
        due(22, "kthArc(1, 3, 1, 0)", y.kthArc(1, 3, 1, 0), 3);
        due(21, "kth(1, 3, 2)", y.kth(1, 3, 2), -3);
    }

    private static void longRow() {
        // 40 arcs, 640000 ways of nine arcs each; the last arcs change first.
        LeastPaths x = graph(10);
        for (int i = 0; i < 40; i++) {
            x.arc(i % 9, i % 9 + 1, 1000000);
        }
        due(21, "kth(0, 9, 29)", x.kth(0, 9, 29), 9000000);
        // Step 8 has the arcs 8, 17, 26, 35; step 7 has 7, 16, 25, 34; step 6 has 6, 15, ..: 29 = 1 * 16 + 3 * 4 + 1.
        due(22, "kthArc(0, 9, 29, 8)", x.kthArc(0, 9, 29, 8), 17);
        due(22, "kthArc(0, 9, 29, 7)", x.kthArc(0, 9, 29, 7), 34);
        due(22, "kthArc(0, 9, 29, 6)", x.kthArc(0, 9, 29, 6), 15);
        due(22, "kthArc(0, 9, 29, 5)", x.kthArc(0, 9, 29, 5), 5);
        due(22, "kthArc(0, 9, 29, 9)", x.kthArc(0, 9, 29, 9), -1);
    }

    private static void widest() {
        LeastPaths x = graph(4, 0, 1, 5, 1, 2, 9, 0, 2, 4, 2, 0, 0);
        int[][] others = {{4, 0}, {0, 4}, {-1, 0}, {0, -1}, {LOW, HIGH}, {1, 1}};
        for (int[] pair : others) {
            due(23, "widest(" + pair[0] + ", " + pair[1] + ")", x.widest(pair[0], pair[1]), -1);
        }
        due(23, "widest(0, 2)", x.widest(0, 2), 5);
        due(23, "widest(1, 2)", x.widest(1, 2), 9);
        due(23, "widest(2, 1), no width", x.widest(2, 1), 0);
        due(23, "widest(0, 3)", x.widest(0, 3), -3);
        due(23, "widest(3, 0)", x.widest(3, 0), -3);
        x.drop(1);
        due(23, "widest(0, 2) without an arc", x.widest(0, 2), 4);
        // A chain whose arcs come in the worst order.
        LeastPaths y = graph(10);
        for (int n = 8; n >= 0; n--) {
            y.arc(n, n + 1, 1000000 - n);
        }
        due(23, "widest(0, 9)", y.widest(0, 9), 999992);
    }

    private static void trust() {
        LeastPaths x = graph(4, 0, 1, 5, 1, 2, 9, 0, 2, 4, 2, 0, 0);
        int[][] others = {{4, 0}, {0, 4}, {-1, 0}, {0, -1}, {LOW, HIGH}, {1, 1}};
        for (int[] pair : others) {
            due(24, "trust(" + pair[0] + ", " + pair[1] + ", 7)", x.trust(pair[0], pair[1], 7), -1);
        }
        for (int part : new int[] {-1, 2, LOW, HIGH}) {
            due(24, "trust(0, 2, " + part + ")", x.trust(0, 2, part), -2);
            due(24, "trust(0, 3, " + part + ")", x.trust(0, 3, part), -2);
        }
        due(24, "trust(0, 3, 0)", x.trust(0, 3, 0), -3);
        due(24, "trust(3, 0, 1)", x.trust(3, 0, 1), -3);
        x.share(0, 2, 3);
        x.share(1, 3, 4);
        x.share(2, 4, 9);
        // 2 of 3 and 3 of 4 make 1 of 2, which is more than 4 of 9.
        due(24, "trust(0, 2, 0)", x.trust(0, 2, 0), 1);
        due(24, "trust(0, 2, 1)", x.trust(0, 2, 1), 2);
        x.share(2, 5, 9);
        due(24, "trust(0, 2, 0)", x.trust(0, 2, 0), 5);
        due(24, "trust(0, 2, 1)", x.trust(0, 2, 1), 9);
        x.share(2, 0, 9);
        x.share(1, 0, 7);
        due(24, "trust(0, 2, 0) of none", x.trust(0, 2, 0), 0);
        due(24, "trust(0, 2, 1) of none", x.trust(0, 2, 1), 1);
        x.drop(1);
        x.drop(2);
        due(24, "trust(0, 2, 0) without a way", x.trust(0, 2, 0), -3);
    }

    private static void trustGreatestTerms() {
        LeastPaths x = graph(10);
        for (int n = 8; n >= 0; n--) {
            x.share(x.arc(n, n + 1, 1), 8, 9);
        }
        x.share(x.arc(9, 0, 1), 8, 9);
        due(24, "trust(0, 9, 0)", x.trust(0, 9, 0), 134217728);
        due(24, "trust(0, 9, 1)", x.trust(0, 9, 1), 387420489);
        // 8^9 of 9^9 is some 0.346: more than 3 of 9, less than 7 of 9.
        x.share(x.arc(0, 9, 1), 3, 9);
        due(24, "trust(0, 9, 1), by the long way", x.trust(0, 9, 1), 387420489);
        x.share(10, 7, 9);
        due(24, "trust(0, 9, 0), by the short way", x.trust(0, 9, 0), 7);
    }

    private static void rings() {
        LeastPaths x = graph(4, 0, 1, 5, 1, 2, 5, 2, 3, 5);
        due(25, "ring() without one", x.ring(), -3);
        due(26, "ringArc(0) without one", x.ringArc(0), -3);
        due(26, "ringArc(-1) without one", x.ringArc(-1), -3);
        x.arc(3, 0, 6);
        due(25, "ring()", x.ring(), 21);
        for (int i = 0; i < 4; i++) {
            due(26, "ringArc(" + i + ")", x.ringArc(i), i);
        }
        for (int i : new int[] {4, -1, LOW, HIGH}) {
            due(26, "ringArc(" + i + ")", x.ringArc(i), -1);
        }
        // 2 -> 3 -> 1 -> 2 has 17: told from arc 1 on, though it was closed by arc 4.
        x.arc(3, 1, 7);
        due(25, "ring()", x.ring(), 17);
        due(26, "ringArc(0)", x.ringArc(0), 1);
        due(26, "ringArc(1)", x.ringArc(1), 2);
        due(26, "ringArc(2)", x.ringArc(2), 4);
        due(26, "ringArc(3)", x.ringArc(3), -1);
        x.drop(4);
        due(25, "ring() without an arc", x.ring(), 21);
        x.drop(0);
        due(25, "ring() without any", x.ring(), -3);
    }

    private static void ringTies() {
        // Of the same length: three arcs by 0, and two by 3 and 4 with greater numbers.
        LeastPaths x = graph(5, 0, 1, 2, 1, 2, 2, 2, 0, 2, 3, 4, 3, 4, 3, 3);
        due(25, "ring()", x.ring(), 6);
        due(26, "ringArc(0), the fewest arcs", x.ringArc(0), 3);
        due(26, "ringArc(2)", x.ringArc(2), -1);
        x.arc(1, 0, 4);
        due(26, "ringArc(0), the least number", x.ringArc(0), 0);
        due(26, "ringArc(1)", x.ringArc(1), 5);
        x.arc(1, 0, 4);
        due(26, "ringArc(1), the least number later", x.ringArc(1), 5);
        x.drop(5);
        due(26, "ringArc(1), the one left", x.ringArc(1), 6);
        // The greatest ring: ten arcs.
        LeastPaths y = graph(10);
        for (int n = 0; n < 10; n++) {
            y.arc((n * 3) % 10, (n * 3 + 3) % 10, 1000000);
        }
        due(25, "ring() of ten", y.ring(), 10000000);
        due(26, "ringArc(9) of ten", y.ringArc(9), 9);
        due(26, "ringArc(10) of ten", y.ringArc(10), -1);
        // Rings of no weight.
        LeastPaths z = graph(3, 2, 0, 0, 1, 2, 0, 0, 1, 0, 1, 0, 0);
        due(25, "ring() of no weight", z.ring(), 0);
        due(26, "ringArc(0) of no weight", z.ringArc(0), 2);
        due(26, "ringArc(1) of no weight", z.ringArc(1), 3);
    }

    private static void missed() {
        LeastPaths x = graph(4, 0, 1, 1, 1, 2, 1, 0, 2, 5, 1, 2, 3);
        int[][] others = {{4, 0}, {0, 4}, {-1, 0}, {0, -1}, {LOW, HIGH}, {1, 1}};
        for (int[] pair : others) {
            due(27, "missed(" + pair[0] + ", " + pair[1] + ")", x.missed(pair[0], pair[1]), -1);
        }
        // Without arc 0: 5; without arc 1: 4.
        due(27, "missed(0, 2)", x.missed(0, 2), 0);
        due(27, "missed(0, 3)", x.missed(0, 3), -3);
        due(27, "missed(3, 0)", x.missed(3, 0), -3);
        due(27, "missed(0, 1), none at all", x.missed(0, 1), 0);
        due(27, "missed(1, 2)", x.missed(1, 2), 1);
        x.drop(2);
        x.drop(3);
        due(27, "missed(0, 2), the first of two", x.missed(0, 2), 0);
    }

    private static void missedTies() {
        // Two ways of the same length: no arc changes it.
        LeastPaths x = graph(3, 0, 1, 2, 1, 2, 2, 0, 2, 4);
        due(27, "missed(0, 2), none changes it", x.missed(0, 2), -3);
        x.drop(2);
        x.arc(1, 2, 9);
        // Without arc 0 there is no way at all, which is greater than 11 without arc 1.
        due(27, "missed(0, 2), none at all is greater", x.missed(0, 2), 0);
        // The same, the arc without which there is none being the later one.
        LeastPaths y = graph(3, 0, 1, 2, 0, 1, 1000000, 1, 2, 2);
        due(27, "missed(0, 2), the later one", y.missed(0, 2), 2);
        // An arc with another one at its side is not missed: 0 is, 1 is not.
        LeastPaths z = graph(4, 0, 1, 1, 1, 3, 1, 0, 2, 1, 2, 3, 2, 1, 3, 1);
        due(27, "missed(0, 3)", z.missed(0, 3), 0);
    }

    private static void greatest() {
        // All weights and rests as great as they may be: no sum leaves its bounds.
        LeastPaths x = graph(10);
        for (int n = 0; n < 9; n++) {
            x.arc(n, n + 1, 1000000);
            x.rest(n, 1000000);
        }
        x.rest(9, 1000000);
        due(17, "led(0, 9)", x.led(0, 9), 10);
        due(18, "ledTo(0, 9)", x.ledTo(0, 9), 9000000);
        due(20, "bothTo(0, 9)", x.bothTo(0, 9), 9000000);
        due(19, "both(0, 9)", x.both(0, 9), 9);
        due(21, "kth(0, 9, 0)", x.kth(0, 9, 0), 9000000);
        due(23, "widest(0, 9)", x.widest(0, 9), 1000000);
        due(27, "missed(0, 9)", x.missed(0, 9), 0);
        due(16, "good(9)", x.good(9), 0);
    }
}
