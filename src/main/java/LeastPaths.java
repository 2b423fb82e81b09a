/**
 * Least ways in graphs with weights not below none: trees from many sources with ties by arcs, how
 * many ways there are, searches led by told rests, searches from both sides, one least way after the
 * other, the widest and the most reliable, rings, the arc that is missed most.
 *
 * <p>All rows are made with the object; no call makes another one.
 */
public final class LeastPaths {
    private static final int MAX_NODES = 10;
    private static final int MAX_ARCS = 40;
    private static final int MAX_WEIGHT = 1000000;
    private static final int MAX_REST = 1000000;
    private static final int MAX_BELOW = 9;
    private static final int MAX_HEAP = 3;
    private static final int ROW_ROOM = 30;

    /**
     * A number of a search is a length times this, and the arcs that were counted: so one comparison
     * orders by the length and then by the arcs, of which a ring has no more than there are nodes.
     */
    private static final int UNIT = 16;

    private static final int NO_SUCH = -1;
    private static final int OUTSIDE = -2;
    private static final int NONE = -3;
    private static final int NO_ROOM = -4;

    /** Inside the class: no node, no arc, no place, no number. */
    private static final int ABSENT = -1;

    private static final int ENDLESS = Integer.MAX_VALUE;

    private final int heap;
    private final Graph graph;
    private final Search ahead;
    private final Search back;
    private final BothSides sides;
    private final Row row;
    private final Rings rings;
    private final Widths widths;
    private final Trusts trusts;

    /** No nodes; heap is 1 to 3, and taken to the nearer of these when it is outside. */
    public LeastPaths(int heap) {
        this.heap = Math.min(MAX_HEAP, Math.max(1, heap));
        graph = new Graph();
        ahead = new Search(graph, false, this.heap);
        back = new Search(graph, true, this.heap);
        sides = new BothSides(ahead, back);
        row = new Row(graph, back);
        rings = new Rings(graph, back);
        widths = new Widths(graph);
        trusts = new Trusts(graph);
    }

    /** How what is not settled is kept, 1 to 3. */
    public int heap() {
        return heap;
    }

    /** A node more: its number; or -4. */
    public int node() {
        if (graph.nodes >= MAX_NODES) {
            return NO_ROOM;
        }
        return graph.addNode();
    }

    /** An arc more: its number; or -1, -2, -4. */
    public int arc(int from, int to, int weight) {
        if (!isPair(from, to)) {
            return NO_SUCH;
        }
        if (weight < 0 || weight > MAX_WEIGHT) {
            return OUTSIDE;
        }
        if (graph.arcs >= MAX_ARCS) {
            return NO_ROOM;
        }
        return graph.addArc(from, to, weight);
    }

    /** Sets an arc's share: 1; or -1, -2. */
    public int share(int arc, int above, int below) {
        if (!graph.hasArc(arc)) {
            return NO_SUCH;
        }
        if (below < 1 || below > MAX_BELOW || above < 0 || above > below) {
            return OUTSIDE;
        }
        graph.above[arc] = above;
        graph.below[arc] = below;
        return 1;
    }

    /** Takes an arc away: how many there are; or -1. */
    public int drop(int arc) {
        if (!graph.hasArc(arc)) {
            return NO_SUCH;
        }
        graph.live &= ~(1L << arc);
        return Long.bitCount(graph.live);
    }

    /** Sets whether a node is a source: whether it was, 1 or 0; or -1. */
    public int source(int node, boolean is) {
        if (!graph.hasNode(node)) {
            return NO_SUCH;
        }
        int bit = 1 << node;
        int was = (graph.sources & bit) != 0 ? 1 : 0;
        graph.sources = is ? graph.sources | bit : graph.sources & ~bit;
        return was;
    }

    /** Sets a node's rest: what it was; or -1, -2. */
    public int rest(int node, int v) {
        if (!graph.hasNode(node)) {
            return NO_SUCH;
        }
        if (v < 0 || v > MAX_REST) {
            return OUTSIDE;
        }
        int was = graph.rest[node];
        graph.rest[node] = v;
        return was;
    }

    /** Takes all nodes away, and with them the arcs, whose numbers begin anew: how many nodes there were. */
    public int clear() {
        int were = graph.nodes;
        graph.nodes = 0;
        graph.arcs = 0;
        graph.live = 0L;
        graph.sources = 0;
        return were;
    }

    // ---- trees

    /** A node's distance; or -1, -3. */
    public int distance(int node) {
        if (!graph.hasNode(node)) {
            return NO_SUCH;
        }
        growTree();
        return ahead.knows(node) ? ahead.number[node] / UNIT : NONE;
    }

    /** A node's hops; or -1, -3. */
    public int hops(int node) {
        if (!graph.hasNode(node)) {
            return NO_SUCH;
        }
        growTree();
        return ahead.knows(node) ? ahead.number[node] % UNIT : NONE;
    }

    /** A node's step; or -1, -3 (also for a source). */
    public int step(int node) {
        if (!graph.hasNode(node)) {
            return NO_SUCH;
        }
        growTree();
        int arc = ahead.knows(node) ? ahead.lastArc(node) : ABSENT;
        return arc == ABSENT ? NONE : arc;
    }

    /** How many ways from sources have a node's distance and hops; or -1. */
    public int ways(int node) {
        if (!graph.hasNode(node)) {
            return NO_SUCH;
        }
        growTree();
        return ahead.countWays(node);
    }

    /** Arc i of a node's tree way; or -1, -3, -1. */
    public int tree(int node, int i) {
        if (!graph.hasNode(node)) {
            return NO_SUCH;
        }
        growTree();
        if (!ahead.knows(node)) {
            return NONE;
        }
        return treeArc(node, i);
    }

    /** The nodes to which ways lead from sources, as bits. */
    public int reached() {
        growTree();
        return ahead.known;
    }

    // ---- searches

    /** Whether the rests are good for a goal, 1 or 0; or -1. */
    public int good(int goal) {
        if (!graph.hasNode(goal)) {
            return NO_SUCH;
        }
        return graph.restsLeadTo(goal) ? 1 : 0;
    }

    /** Led from a to a goal: how many nodes were settled; or -1. */
    public int led(int a, int goal) {
        if (!areNodes(a, goal)) {
            return NO_SUCH;
        }
        ahead.goLed(a, goal);
        return ahead.settled;
    }

    /** Led from a to a goal: the goal's number at the end; or -1, -3. */
    public int ledTo(int a, int goal) {
        if (!areNodes(a, goal)) {
            return NO_SUCH;
        }
        ahead.goLed(a, goal);
        return ahead.knows(goal) ? ahead.number[goal] / UNIT : NONE;
    }

    /** From both sides: how many nodes were settled by both together; or -1. */
    public int both(int a, int b) {
        if (!areNodes(a, b)) {
            return NO_SUCH;
        }
        sides.meet(a, b);
        return ahead.settled + back.settled;
    }

    /** From both sides: the best sum at the end; or -1, -3. */
    public int bothTo(int a, int b) {
        if (!areNodes(a, b)) {
            return NO_SUCH;
        }
        sides.meet(a, b);
        return sides.best == ENDLESS ? NONE : sides.best / UNIT;
    }

    // ---- one after the other

    /** The length of way k in the row of a, b; or -1, -2, -3. */
    public int kth(int a, int b, int k) {
        if (!areNodes(a, b)) {
            return NO_SUCH;
        }
        if (k < 0 || k >= ROW_ROOM) {
            return OUTSIDE;
        }
        row.fill(a, b, k + 1);
        return k < row.size ? row.ways[k].number / UNIT : NONE;
    }

    /** Arc i of way k in the row of a, b; or -1, -2, -3, -1. */
    public int kthArc(int a, int b, int k, int i) {
        if (!areNodes(a, b)) {
            return NO_SUCH;
        }
        if (k < 0 || k >= ROW_ROOM) {
            return OUTSIDE;
        }
        row.fill(a, b, k + 1);
        return k < row.size ? row.ways[k].arcAt(i) : NONE;
    }

    // ---- others

    /** The greatest width of a way from a to b; or -1 (also for the same), -3. */
    public int widest(int a, int b) {
        if (!isPair(a, b)) {
            return NO_SUCH;
        }
        widths.spread(a);
        return widths.width[b] == ABSENT ? NONE : widths.width[b];
    }

    /**
     * The greatest trust of a way from a to b in lowest terms, part 0 above, 1 below; or -1 (also for
     * the same), -2, -3.
     */
    public int trust(int a, int b, int part) {
        if (!isPair(a, b)) {
            return NO_SUCH;
        }
        if (part != 0 && part != 1) {
            return OUTSIDE;
        }
        trusts.spread(a);
        if (!trusts.knows(b)) {
            return NONE;
        }
        return trusts.lowestTerm(b, part);
    }

    /** The length of the ring; or -3. */
    public int ring() {
        rings.find();
        return rings.least.count == 0 ? NONE : rings.least.number / UNIT;
    }

    /** Arc i of the ring; or -3, -1. */
    public int ringArc(int i) {
        rings.find();
        return rings.least.count == 0 ? NONE : rings.least.arcAt(i);
    }

    /** The arc without which the least length from a to b is greatest; or -1 (also for the same), -3. */
    public int missed(int a, int b) {
        if (!isPair(a, b)) {
            return NO_SUCH;
        }
        int greatest = lengthWithout(a, b, 0L);
        int most = NONE;
        for (int e = 0; e < graph.arcs; e++) {
            int length = graph.hasArc(e) ? lengthWithout(a, b, 1L << e) : ABSENT;
            if (length > greatest) {
                greatest = length;
                most = e;
            }
        }
        return most;
    }

    private boolean areNodes(int a, int b) {
        return graph.hasNode(a) && graph.hasNode(b);
    }

    /** Whether these are two nodes, not one. */
    private boolean isPair(int a, int b) {
        return areNodes(a, b) && a != b;
    }

    private void growTree() {
        ahead.beginCounted(graph.live, 0);
        for (int n = 0; n < graph.nodes; n++) {
            if ((graph.sources >> n & 1) != 0) {
                ahead.offer(n, 0);
            }
        }
        ahead.settleAll();
    }

    private int treeArc(int node, int i) {
        int hops = ahead.number[node] % UNIT;
        if (i < 0 || i >= hops) {
            return NO_SUCH;
        }
        int arc = ahead.lastArc(node);
        for (int at = hops - 1; at > i && arc != ABSENT; at--) {
            arc = ahead.lastArc(graph.from[arc]);
        }
        return arc;
    }

    private int lengthWithout(int a, int b, long missing) {
        ahead.beginCounted(graph.live & ~missing, 0);
        ahead.offer(a, 0);
        ahead.settleAll();
        return ahead.knows(b) ? ahead.number[b] / UNIT : ENDLESS;
    }

    /** The nodes and arcs, and what was told of them. */
    private static final class Graph {
        final int[] from = new int[MAX_ARCS];
        final int[] to = new int[MAX_ARCS];
        final int[] weight = new int[MAX_ARCS];
        final int[] above = new int[MAX_ARCS];
        final int[] below = new int[MAX_ARCS];
        final int[] rest = new int[MAX_NODES];
        int nodes;
        /** How many arcs were made, with those that were dropped. */
        int arcs;
        /** The arcs that were not dropped, as bits. */
        long live;
        int sources;

        boolean hasNode(int n) {
            return n >= 0 && n < nodes;
        }

        boolean hasArc(int e) {
            return e >= 0 && e < arcs && (live >> e & 1L) != 0L;
        }

        int addNode() {
            int n = nodes;
            rest[n] = 0;
            nodes++;
            return n;
        }

        int addArc(int start, int end, int heavy) {
            int e = arcs;
            from[e] = start;
            to[e] = end;
            weight[e] = heavy;
            above[e] = 1;
            below[e] = 1;
            live |= 1L << e;
            arcs++;
            return e;
        }

        boolean restsLeadTo(int goal) {
            if (rest[goal] != 0) {
                return false;
            }
            for (int e = 0; e < arcs; e++) {
                if (hasArc(e) && rest[from[e]] > weight[e] + rest[to[e]]) {
                    return false;
                }
            }
            return true;
        }
    }

    /**
     * The nodes that have a number and are not settled: a heap each place of which has so many places
     * below it as HEAP says, so that 1 is a sorted row. All ranks differ, so no answer hangs on it.
     */
    private static final class Waiting {
        private final int children;
        private final int[] nodeAt = new int[MAX_NODES];
        private final int[] placeOf = new int[MAX_NODES];
        private final long[] rankOf = new long[MAX_NODES];
        private int size;

        Waiting(int children) {
            this.children = Math.max(1, children);
        }

        void empty() {
            size = 0;
            for (int n = 0; n < MAX_NODES; n++) {
                placeOf[n] = ABSENT;
            }
        }

        boolean isEmpty() {
            return size == 0;
        }

        int first() {
            return size == 0 ? ABSENT : nodeAt[0];
        }

        /** Lets a node wait by a key that is not above the one it waits by already. */
        void put(int n, int key) {
            if (placeOf[n] == ABSENT) {
                placeOf[n] = size;
                size++;
            }
            // The node is part of the rank: of the same keys the least node comes first.
            rankOf[n] = (long) key * MAX_NODES + n;
            int at = placeOf[n];
            for (int turn = 0; turn < size && at > 0; turn++) {
                int up = (at - 1) / children;
                if (rankOf[nodeAt[up]] < rankOf[n]) {
                    break;
                }
                seat(nodeAt[up], at);
                at = up;
            }
            seat(n, at);
        }

        /** Takes the first out; the last one sinks from the top, which is free then. */
        int takeFirst() {
            if (size == 0) {
                return ABSENT;
            }
            int first = nodeAt[0];
            size--;
            int last = nodeAt[size];
            int at = 0;
            for (int turn = 0; turn < size; turn++) {
                int child = firstChild(at);
                if (child == ABSENT || rankOf[nodeAt[child]] > rankOf[last]) {
                    break;
                }
                seat(nodeAt[child], at);
                at = child;
            }
            seat(last, at);
            placeOf[first] = ABSENT;
            return first;
        }

        private void seat(int n, int place) {
            nodeAt[place] = n;
            placeOf[n] = place;
        }

        private int firstChild(int at) {
            int first = ABSENT;
            int end = (at + 1) * children + 1;
            for (int child = at * children + 1; child < end && child < size; child++) {
                if (first == ABSENT || rankOf[nodeAt[child]] < rankOf[nodeAt[first]]) {
                    first = child;
                }
            }
            return first;
        }
    }

    /** A search that settles one node after the other, along the arcs or against them. */
    private static final class Search {
        private final Graph graph;
        private final boolean against;
        private final Waiting waiting;
        /** What the nodes have, in units and arcs; meant only for known ones. */
        final int[] number = new int[MAX_NODES];
        private final int[] order = new int[MAX_NODES];
        private final int[] waysTo = new int[MAX_NODES];
        /** How many nodes were settled. */
        int settled;
        /** The nodes that have a number, as bits. */
        int known;
        /** The nodes that get no number any more, as bits. */
        private int closed;
        /** The arcs that the search may take, as bits. */
        private long open;
        /** What an arc adds beside its weight: 1 where arcs are counted. */
        private int perArc;
        private boolean byRests;

        Search(Graph graph, boolean against, int children) {
            this.graph = graph;
            this.against = against;
            waiting = new Waiting(children);
        }

        /** Begins a search by lengths alone, or by these and the rests. */
        void beginPlain(boolean withRests) {
            begin(graph.live, 0);
            perArc = 0;
            byRests = withRests;
        }

        /** Begins a search by lengths and then arcs, over some arcs and without some nodes. */
        void beginCounted(long arcs, int without) {
            begin(arcs, without);
            perArc = 1;
            byRests = false;
        }

        private void begin(long arcs, int without) {
            waiting.empty();
            settled = 0;
            known = 0;
            closed = without;
            open = arcs;
        }

        boolean knows(int n) {
            return (known >> n & 1) != 0;
        }

        boolean isOver() {
            return waiting.isEmpty();
        }

        /** The least number of those that wait. */
        int leastNumber() {
            int first = waiting.first();
            return first == ABSENT ? ENDLESS : number[first];
        }

        void offer(int n, int offered) {
            int bit = 1 << n;
            if ((closed & bit) != 0 || (known & bit) != 0 && number[n] <= offered) {
                return;
            }
            known |= bit;
            number[n] = offered;
            waiting.put(n, byRests ? offered + graph.rest[n] * UNIT : offered);
        }

        /** Settles the first of those that wait and answers it. */
        int settleFirst() {
            int n = waiting.takeFirst();
            if (n == ABSENT || settled >= MAX_NODES) {
                return ABSENT;
            }
            closed |= 1 << n;
            order[settled] = n;
            settled++;
            for (int e = 0; e < graph.arcs; e++) {
                if (startOf(e) == n && isOpen(e)) {
                    offer(endOf(e), number[n] + costOf(e));
                }
            }
            return n;
        }

        void settleAll() {
            for (int turn = 0; turn < MAX_NODES && !isOver(); turn++) {
                settleFirst();
            }
        }

        void goLed(int start, int goal) {
            beginPlain(true);
            offer(start, 0);
            int last = ABSENT;
            for (int turn = 0; turn < MAX_NODES && last != goal && !isOver(); turn++) {
                last = settleFirst();
            }
        }

        /** The arc of the least number by which a known node can have got its number. */
        int lastArc(int n) {
            for (int e = 0; e < graph.arcs; e++) {
                if (leadsBest(e, n)) {
                    return e;
                }
            }
            return ABSENT;
        }

        /** How many ways a counted search has found to a node; it has settled all. */
        int countWays(int goal) {
            for (int i = 0; i < settled; i++) {
                // An arc that leads best comes from a lesser number: from one that was settled before.
                int n = order[i];
                int sum = number[n] == 0 ? 1 : 0;
                for (int e = 0; e < graph.arcs; e++) {
                    sum += leadsBest(e, n) ? waysTo[startOf(e)] : 0;
                }
                waysTo[n] = sum;
            }
            return knows(goal) ? waysTo[goal] : 0;
        }

        /** Adds to a way the arcs from a known node to where a counted search against the arcs began. */
        void follow(int n, Way way) {
            int at = n;
            int hops = number[n] % UNIT;
            for (int i = 0; i < hops; i++) {
                int e = lastArc(at);
                if (e == ABSENT) {
                    return;
                }
                way.add(e, graph.weight[e]);
                at = startOf(e);
            }
        }

        private boolean leadsBest(int e, int n) {
            if (endOf(e) != n || !isOpen(e) || !knows(startOf(e))) {
                return false;
            }
            return number[startOf(e)] + costOf(e) == number[n];
        }

        private boolean isOpen(int e) {
            return (open >> e & 1L) != 0L;
        }

        private int startOf(int e) {
            return against ? graph.to[e] : graph.from[e];
        }

        private int endOf(int e) {
            return against ? graph.from[e] : graph.to[e];
        }

        private int costOf(int e) {
            return graph.weight[e] * UNIT + perArc;
        }
    }

    /** Two searches that come towards each other. */
    private static final class BothSides {
        private final Search ahead;
        private final Search back;
        /** The least sum of both numbers of a node. */
        int best;

        BothSides(Search ahead, Search back) {
            this.ahead = ahead;
            this.back = back;
        }

        void meet(int a, int b) {
            ahead.beginPlain(false);
            ahead.offer(a, 0);
            back.beginPlain(false);
            back.offer(b, 0);
            seekBest();
            for (int turn = 0; turn < 2 * MAX_NODES && goesOn(); turn++) {
                if (back.leastNumber() < ahead.leastNumber()) {
                    back.settleFirst();
                } else {
                    ahead.settleFirst();
                }
                seekBest();
            }
        }

        private boolean goesOn() {
            if (ahead.isOver() || back.isOver()) {
                return false;
            }
            return ahead.leastNumber() + back.leastNumber() < best;
        }

        private void seekBest() {
            best = ENDLESS;
            for (int n = 0; n < MAX_NODES; n++) {
                if (ahead.knows(n) && back.knows(n)) {
                    best = Math.min(best, ahead.number[n] + back.number[n]);
                }
            }
        }
    }

    /** A way or a ring, and from where on it was chosen when it came into the row. */
    private static final class Way {
        final int[] arcs = new int[MAX_NODES];
        int count;
        /** Its length in units, and its arcs. */
        int number;
        /** The first arc that was free when it was chosen: those before were given. */
        int split;
        /** The arcs that it could not take there, as bits. */
        long barred;

        void begin(int newSplit, long newBarred) {
            count = 0;
            number = 0;
            split = newSplit;
            barred = newBarred;
        }

        void add(int e, int weight) {
            if (count < MAX_NODES) {
                arcs[count] = e;
                count++;
                number += weight * UNIT + 1;
            }
        }

        int arcAt(int i) {
            return i >= 0 && i < count ? arcs[i] : NO_SUCH;
        }

        boolean isBefore(Way other) {
            if (number != other.number) {
                return number < other.number;
            }
            for (int i = 0; i < count; i++) {
                if (arcs[i] != other.arcs[i]) {
                    return arcs[i] < other.arcs[i];
                }
            }
            return false;
        }
    }

    /**
     * The simple ways from one node to another, the least first. Each way stands for the set of ways out
     * of which it was chosen as the least; once its turn has come, what is left of its set falls into
     * parts, by the place where they leave it, and the least of each part joins the row.
     */
    private static final class Row {
        private final Graph graph;
        private final Search back;
        /** One more than the row can have: the last is where a new one is laid out. */
        final Way[] ways = new Way[ROW_ROOM + 1];
        private final Way nothing = new Way();
        int size;
        private int room;
        private int start;
        private int goal;

        Row(Graph graph, Search back) {
            this.graph = graph;
            this.back = back;
            for (int i = 0; i < ways.length; i++) {
                ways[i] = new Way();
            }
        }

        /** Finds the first ways from a to b, as many as are wanted, or all. */
        void fill(int a, int b, int wanted) {
            start = a;
            goal = b;
            size = 0;
            room = Math.min(ROW_ROOM, wanted);
            branch(nothing, 0);
            for (int done = 0; done < size && done + 1 < room; done++) {
                Way model = ways[done];
                for (int i = model.split; i < model.count; i++) {
                    branch(model, i);
                }
            }
        }

        /** Adds the least of those ways of the model's set that leave it at a place. */
        private void branch(Way model, int split) {
            int at = start;
            int passed = 0;
            for (int i = 0; i < split; i++) {
                passed |= 1 << at;
                at = graph.to[model.arcs[i]];
            }
            long barred = split == model.split ? model.barred : 0L;
            if (split < model.count) {
                barred |= 1L << model.arcs[split];
            }
            back.beginCounted(graph.live & ~barred, passed);
            back.offer(goal, 0);
            back.settleAll();
            if (back.knows(at)) {
                Way way = ways[size];
                way.begin(split, barred);
                for (int i = 0; i < split; i++) {
                    way.add(model.arcs[i], graph.weight[model.arcs[i]]);
                }
                back.follow(at, way);
                takeIn();
            }
        }

        /** Moves the way behind the last one to its place; beyond the room the last one falls out. */
        private void takeIn() {
            for (int at = size; at > 0 && ways[at].isBefore(ways[at - 1]); at--) {
                Way way = ways[at];
                ways[at] = ways[at - 1];
                ways[at - 1] = way;
            }
            size = Math.min(room, size + 1);
        }
    }

    /** The least ring. */
    private static final class Rings {
        private final Graph graph;
        private final Search back;
        /** Without arcs where there is no ring. */
        final Way least = new Way();

        Rings(Graph graph, Search back) {
            this.graph = graph;
            this.back = back;
        }

        /** Closes each arc to a ring by greater ones alone: so it is the one from which the ring is told. */
        void find() {
            least.begin(0, 0L);
            for (int e = 0; e < graph.arcs; e++) {
                if (graph.hasArc(e)) {
                    back.beginCounted(graph.live & (-2L << e), 0);
                    back.offer(graph.from[e], 0);
                    back.settleAll();
                    takeIfLess(e);
                }
            }
        }

        private void takeIfLess(int e) {
            int next = graph.to[e];
            if (!back.knows(next)) {
                return;
            }
            int number = graph.weight[e] * UNIT + 1 + back.number[next];
            if (least.count == 0 || number < least.number) {
                least.begin(0, 0L);
                least.add(e, graph.weight[e]);
                back.follow(next, least);
            }
        }
    }

    /** The greatest widths of ways from one node. */
    private static final class Widths {
        private final Graph graph;
        final int[] width = new int[MAX_NODES];

        Widths(Graph graph) {
            this.graph = graph;
        }

        void spread(int start) {
            for (int n = 0; n < MAX_NODES; n++) {
                width[n] = n == start ? ENDLESS : ABSENT;
            }
            for (int turn = 1; turn < graph.nodes; turn++) {
                for (int e = 0; e < graph.arcs; e++) {
                    if (graph.hasArc(e)) {
                        int through = Math.min(width[graph.from[e]], graph.weight[e]);
                        width[graph.to[e]] = Math.max(width[graph.to[e]], through);
                    }
                }
            }
        }
    }

    /**
     * The greatest trusts of ways from one node. No share is above 1, so a way that comes to a node
     * again is never better: no fraction kept has more than nine factors, and no term is above 9^9.
     */
    private static final class Trusts {
        private final Graph graph;
        private final long[] above = new long[MAX_NODES];
        /** 0 where no way leads. */
        private final long[] below = new long[MAX_NODES];

        Trusts(Graph graph) {
            this.graph = graph;
        }

        boolean knows(int n) {
            return below[n] != 0L;
        }

        void spread(int start) {
            for (int n = 0; n < MAX_NODES; n++) {
                above[n] = n == start ? 1L : 0L;
                below[n] = n == start ? 1L : 0L;
            }
            for (int turn = 1; turn < graph.nodes; turn++) {
                for (int e = 0; e < graph.arcs; e++) {
                    if (graph.hasArc(e) && knows(graph.from[e])) {
                        pass(e);
                    }
                }
            }
        }

        private void pass(int e) {
            int end = graph.to[e];
            long newAbove = above[graph.from[e]] * graph.above[e];
            long newBelow = below[graph.from[e]] * graph.below[e];
            if (!knows(end) || newAbove * below[end] > above[end] * newBelow) {
                above[end] = newAbove;
                below[end] = newBelow;
            }
        }

        int lowestTerm(int n, int part) {
            long common = commonDivisor(above[n], below[n]);
            long term = part == 0 ? above[n] : below[n];
            return common == 0L ? 0 : (int) (term / common);
        }

        private static long commonDivisor(long first, long second) {
            long greater = second;
            long less = first;
            // Each turn lessens the divisor, and two turns halve it: 64 turns are plenty.
            for (int turn = 0; turn < 64 && less != 0L; turn++) {
                long left = greater % less;
                greater = less;
                less = left;
            }
            return greater;
        }
    }
}
