import java.math.BigInteger;
import java.util.ArrayList;
import java.util.Arrays;
import java.util.Comparator;
import java.util.List;
import java.util.Random;

/**
 * Long runs of calls against a model that takes the document by its words: it lists all simple ways and
 * picks among them. The runs are drawn from fixed seeds, so they are always the same. One object for
 * each HEAP is asked, so no answer hangs on it.
 */
public final class LeastPathsModel {
    private static final int CALLS = 512;

    private static final String[] CHANGES = {
        "node", "arc", "arc", "arc", "share", "share", "share", "share", "drop", "drop", "source", "source",
        "source", "rest", "rest", "rest", "rest"
    };
    private static final String[] QUESTIONS = {
        "heap", "distance", "hops", "step", "ways", "tree", "tree", "reached", "good", "led", "led", "ledTo", "ledTo",
        "both", "both", "bothTo", "bothTo", "kth", "kth", "kthArc", "kthArc", "kthArc", "widest", "trust", "trust",
        "ring", "ringArc", "missed", "missed"
    };

    private static int wrong = 0;

    public static void main(String[] args) {
        play(0, 300, 5, 12, 4);
        play(1000, 60, 8, 20, 3);
        play(2000, 20, 8, 20, 1000001);
        play(3000, 8, 10, 40, 1000001);
        play(4000, 8, 10, 40, 3);
        System.out.println(wrong == 0 ? "all answers are as due" : wrong + " answers are not as due");
        if (wrong != 0) {
            System.exit(1);
        }
    }

    /**
     * Plays runs on graphs with up to so many nodes and so many arcs, their weights below a bound. Now and
     * then the graph is cleared and another one built on the same object, and now and then the question
     * before is asked again, with or without a change in between.
     */
    private static void play(int firstSeed, int runs, int nodes, int arcs, int bound) {
        for (int seed = firstSeed; seed < firstSeed + runs; seed++) {
            Random random = new Random(seed);
            Run run = new Run(seed);
            build(run, random, nodes, arcs, bound);
            Call question = draw("reached", random, run.model, bound);
            while (run.calls < CALLS) {
                int way = random.nextInt(200);
                if (way == 0) {
                    run.call(draw("clear", random, run.model, bound));
                    build(run, random, nodes, arcs, bound);
                } else if (way < 25) {
                    run.call(draw(pick(CHANGES, random), random, run.model, bound));
                } else {
                    question = way < 60 ? question : draw(pick(QUESTIONS, random), random, run.model, bound);
                    run.call(question);
                }
            }
        }
    }

    private static void build(Run run, Random random, int nodes, int arcs, int bound) {
        int made = nodes - random.nextInt(3);
        for (int n = 0; n < made && run.calls < CALLS; n++) {
            run.call(new Call("node", new int[4]));
        }
        for (int e = 0; e < arcs && run.calls < CALLS; e++) {
            run.call(draw("arc", random, run.model, bound));
        }
    }

    private static String pick(String[] names, Random random) {
        return names[random.nextInt(names.length)];
    }

    /** Draws what a call is given: mostly what is there, now and then what is not. */
    private static Call draw(String name, Random random, Model model, int bound) {
        int[] with = new int[4];
        for (int i = 0; i < with.length; i++) {
            with[i] = drawNode(random, model.nodes);
        }
        switch (name) {
            case "arc" -> with[2] = drawNumber(random, bound);
            case "share" -> {
                with[0] = random.nextInt(model.arcs.size() + 2) - 1;
                with[2] = random.nextInt(11);
                with[1] = random.nextInt(Math.max(1, with[2]) + 2) - random.nextInt(2);
            }
            case "drop" -> with[0] = random.nextInt(model.arcs.size() + 2) - 1;
            case "source" -> with[1] = random.nextInt(2);
            case "rest" -> with[1] = drawNumber(random, bound);
            case "tree" -> with[1] = random.nextInt(7) - 1;
            case "kth", "kthArc" -> {
                with[2] = random.nextInt(random.nextBoolean() ? 6 : 32) - random.nextInt(2);
                with[3] = random.nextInt(8) - 1;
            }
            case "trust" -> with[2] = random.nextInt(20) == 0 ? 2 : random.nextInt(2);
            case "ringArc" -> with[0] = random.nextInt(6) - 1;
            default -> { }
        }
        return new Call(name, with);
    }

    private static int drawNode(Random random, int nodes) {
        return random.nextInt(60) == 0 ? random.nextInt(2) * (nodes + 1) - 1 : random.nextInt(Math.max(1, nodes));
    }

    private static int drawNumber(Random random, int bound) {
        return random.nextInt(30) == 0 ? random.nextInt(2) * 1000002 - 1 : random.nextInt(bound);
    }

    /** A call and what it is given; it takes as many of the four as it needs. */
    private record Call(String name, int[] with) {
        String text() {
            return name + Arrays.toString(with);
        }
    }

    /** Objects and the model, to which the same calls are made. */
    private static final class Run {
        final Model model = new Model();
        int calls = 0;
        private final int seed;
        private final LeastPaths[] objects = {new LeastPaths(1), new LeastPaths(2), new LeastPaths(3)};

        Run(int seed) {
            this.seed = seed;
        }

        void call(Call call) {
            calls++;
            int due = model.answer(call);
            for (int h = 1; h <= objects.length; h++) {
                int want = call.name.equals("heap") ? h : due;
                int got = answer(objects[h - 1], call);
                if (got != want) {
                    wrong++;
                    System.out.println("seed " + seed + ", heap " + h + ", call " + calls + ": " + call.text()
                            + " answered " + got + ", due is " + want);
                }
            }
        }

        private static int answer(LeastPaths x, Call call) {
            int a = call.with[0];
            int b = call.with[1];
            int c = call.with[2];
            int d = call.with[3];
            return switch (call.name) {
                case "heap" -> x.heap();
                case "node" -> x.node();
                case "arc" -> x.arc(a, b, c);
                case "share" -> x.share(a, b, c);
                case "drop" -> x.drop(a);
                case "source" -> x.source(a, b == 1);
                case "rest" -> x.rest(a, b);
                case "clear" -> x.clear();
                case "distance" -> x.distance(a);
                case "hops" -> x.hops(a);
                case "step" -> x.step(a);
                case "ways" -> x.ways(a);
                case "tree" -> x.tree(a, b);
                case "reached" -> x.reached();
                case "good" -> x.good(a);
                case "led" -> x.led(a, b);
                case "ledTo" -> x.ledTo(a, b);
                case "both" -> x.both(a, b);
                case "bothTo" -> x.bothTo(a, b);
                case "kth" -> x.kth(a, b, c);
                case "kthArc" -> x.kthArc(a, b, c, d);
                case "widest" -> x.widest(a, b);
                case "trust" -> x.trust(a, b, c);
                case "ring" -> x.ring();
                case "ringArc" -> x.ringArc(a);
                case "missed" -> x.missed(a, b);
                default -> throw new IllegalStateException(call.name);
            };
        }
    }

    private static final class Arc {
        final int number;
        final int from;
        final int to;
        final int weight;
        int above = 1;
        int below = 1;
        boolean dropped = false;

        Arc(int number, int from, int to, int weight) {
            this.number = number;
            this.from = from;
            this.to = to;
            this.weight = weight;
        }
    }

    /** The document by its words, without care for speed. */
    private static final class Model {
        /** The least length first, then the fewest arcs, then the least number where they first differ. */
        static final Comparator<List<Arc>> ORDER = Comparator.<List<Arc>>comparingInt(Model::length)
                .thenComparingInt(List::size)
                .thenComparing((x, y) -> Arrays.compare(numbers(x), numbers(y)));

        int nodes = 0;
        final List<Arc> arcs = new ArrayList<>();
        private final boolean[] isSource = new boolean[10];
        private final int[] rest = new int[10];

        static int length(List<Arc> way) {
            return way.stream().mapToInt(arc -> arc.weight).sum();
        }

        static int[] numbers(List<Arc> way) {
            return way.stream().mapToInt(arc -> arc.number).toArray();
        }

        int answer(Call call) {
            int a = call.with[0];
            int b = call.with[1];
            int c = call.with[2];
            int d = call.with[3];
            return switch (call.name) {
                case "heap" -> 0;
                case "node" -> node();
                case "arc" -> arc(a, b, c);
                case "share" -> share(a, b, c);
                case "drop" -> drop(a);
                case "source" -> source(a, b == 1);
                case "rest" -> rest(a, b);
                case "clear" -> clear();
                case "distance" -> !isNode(a) ? -1 : leastTo(a).isEmpty() ? -3 : length(leastTo(a).get(0));
                case "hops" -> !isNode(a) ? -1 : leastTo(a).isEmpty() ? -3 : leastTo(a).get(0).size();
                case "step" -> !isNode(a) ? -1 : step(a);
                case "ways" -> !isNode(a) ? -1 : leastTo(a).size();
                case "tree" -> tree(a, b);
                case "reached" -> reached();
                case "good" -> good(a);
                case "led" -> !areNodes(a, b) ? -1 : led(a, b)[0];
                case "ledTo" -> !areNodes(a, b) ? -1 : led(a, b)[1];
                case "both" -> !areNodes(a, b) ? -1 : both(a, b)[0];
                case "bothTo" -> !areNodes(a, b) ? -1 : both(a, b)[1];
                case "kth" -> kth(a, b, c, 0, false);
                case "kthArc" -> kth(a, b, c, d, true);
                case "widest" -> widest(a, b);
                case "trust" -> trust(a, b, c);
                case "ring" -> ring().isEmpty() ? -3 : length(ring());
                case "ringArc" -> ring().isEmpty() ? -3 : a < 0 || a >= ring().size() ? -1 : ring().get(a).number;
                case "missed" -> missed(a, b);
                default -> throw new IllegalStateException(call.name);
            };
        }

        private boolean isNode(int n) {
            return n >= 0 && n < nodes;
        }

        private boolean areNodes(int a, int b) {
            return isNode(a) && isNode(b);
        }

        private boolean isArc(int e) {
            return e >= 0 && e < arcs.size() && !arcs.get(e).dropped;
        }

        private List<Arc> present() {
            return arcs.stream().filter(arc -> !arc.dropped).toList();
        }

        private int node() {
            return nodes == 10 ? -4 : nodes++;
        }

        private int arc(int from, int to, int weight) {
            if (!areNodes(from, to) || from == to) {
                return -1;
            }
            if (weight < 0 || weight > 1000000) {
                return -2;
            }
            if (arcs.size() == 40) {
                return -4;
            }
            arcs.add(new Arc(arcs.size(), from, to, weight));
            return arcs.size() - 1;
        }

        private int share(int e, int above, int below) {
            if (!isArc(e)) {
                return -1;
            }
            if (below < 1 || below > 9 || above < 0 || above > below) {
                return -2;
            }
            arcs.get(e).above = above;
            arcs.get(e).below = below;
            return 1;
        }

        private int drop(int e) {
            if (!isArc(e)) {
                return -1;
            }
            arcs.get(e).dropped = true;
            return present().size();
        }

        private int source(int n, boolean is) {
            if (!isNode(n)) {
                return -1;
            }
            boolean was = isSource[n];
            isSource[n] = is;
            return was ? 1 : 0;
        }

        private int rest(int n, int v) {
            if (!isNode(n)) {
                return -1;
            }
            if (v < 0 || v > 1000000) {
                return -2;
            }
            int was = rest[n];
            rest[n] = v;
            return was;
        }

        private int clear() {
            int were = nodes;
            nodes = 0;
            arcs.clear();
            Arrays.fill(isSource, false);
            Arrays.fill(rest, 0);
            return were;
        }

        /** All simple ways from a to b, in no order. */
        private List<List<Arc>> simpleWays(int a, int b) {
            List<List<Arc>> found = new ArrayList<>();
            goOn(a, b, new ArrayList<>(), new boolean[10], present(), found);
            return found;
        }

        private static void goOn(
                int at, int b, List<Arc> way, boolean[] been, List<Arc> present, List<List<Arc>> found) {
            if (at == b) {
                found.add(List.copyOf(way));
                return;
            }
            been[at] = true;
            for (Arc arc : present) {
                if (arc.from == at && !been[arc.to]) {
                    way.add(arc);
                    goOn(arc.to, b, way, been, present, found);
                    way.remove(way.size() - 1);
                }
            }
            been[at] = false;
        }

        /** All ways from sources with a node's distance and hops; none of them comes to a node twice. */
        private List<List<Arc>> leastTo(int n) {
            List<List<Arc>> all = new ArrayList<>();
            for (int s = 0; s < nodes; s++) {
                if (isSource[s]) {
                    all.addAll(simpleWays(s, n));
                }
            }
            int least = all.stream().mapToInt(Model::length).min().orElse(0);
            all.removeIf(way -> length(way) > least);
            int fewest = all.stream().mapToInt(List::size).min().orElse(0);
            all.removeIf(way -> way.size() > fewest);
            return all;
        }

        private int step(int n) {
            return leastTo(n).stream().filter(way -> !way.isEmpty())
                    .mapToInt(way -> way.get(way.size() - 1).number).min().orElse(-3);
        }

        private int tree(int n, int i) {
            if (!isNode(n)) {
                return -1;
            }
            if (leastTo(n).isEmpty()) {
                return -3;
            }
            List<Integer> way = new ArrayList<>();
            int at = n;
            for (int e = step(at); e >= 0; e = step(at)) {
                way.add(0, e);
                at = arcs.get(e).from;
            }
            return i < 0 || i >= way.size() ? -1 : way.get(i);
        }

        private int reached() {
            int bits = 0;
            for (int n = 0; n < nodes; n++) {
                bits |= leastTo(n).isEmpty() ? 0 : 1 << n;
            }
            return bits;
        }

        private int good(int goal) {
            if (!isNode(goal)) {
                return -1;
            }
            boolean arcsGood = present().stream().allMatch(arc -> rest[arc.from] <= arc.weight + rest[arc.to]);
            return rest[goal] == 0 && arcsGood ? 1 : 0;
        }

        /** The node of those with a number and not settled whose number and rest are least, or -1. */
        private static int next(Integer[] number, boolean[] settled, int[] rests) {
            int next = -1;
            for (int n = 0; n < number.length; n++) {
                if (number[n] != null && !settled[n]
                        && (next < 0 || number[n] + rests[n] < number[next] + rests[next])) {
                    next = n;
                }
            }
            return next;
        }

        private void settle(int n, Integer[] number, boolean[] settled, boolean against) {
            settled[n] = true;
            for (Arc arc : present()) {
                int start = against ? arc.to : arc.from;
                int end = against ? arc.from : arc.to;
                if (start == n && !settled[end]
                        && (number[end] == null || number[end] > number[n] + arc.weight)) {
                    number[end] = number[n] + arc.weight;
                }
            }
        }

        private int[] led(int a, int goal) {
            Integer[] number = new Integer[10];
            boolean[] settled = new boolean[10];
            number[a] = 0;
            int count = 0;
            for (int n = next(number, settled, rest); n >= 0; n = next(number, settled, rest)) {
                count++;
                if (n == goal) {
                    break;
                }
                settle(n, number, settled, false);
            }
            return new int[] {count, number[goal] == null ? -3 : number[goal]};
        }

        private int[] both(int a, int b) {
            Integer[][] number = new Integer[2][10];
            boolean[][] settled = new boolean[2][10];
            number[0][a] = 0;
            number[1][b] = 0;
            int count = 0;
            while (true) {
                Integer best = null;
                for (int n = 0; n < 10; n++) {
                    if (number[0][n] != null && number[1][n] != null
                            && (best == null || number[0][n] + number[1][n] < best)) {
                        best = number[0][n] + number[1][n];
                    }
                }
                int first = next(number[0], settled[0], new int[10]);
                int second = next(number[1], settled[1], new int[10]);
                if (first < 0 || second < 0 || best != null && number[0][first] + number[1][second] >= best) {
                    return new int[] {count, best == null ? -3 : best};
                }
                int side = number[1][second] < number[0][first] ? 1 : 0;
                settle(side == 0 ? first : second, number[side], settled[side], side == 1);
                count++;
            }
        }

        private int kth(int a, int b, int k, int i, boolean arc) {
            if (!areNodes(a, b)) {
                return -1;
            }
            if (k < 0 || k > 29) {
                return -2;
            }
            List<List<Arc>> row = simpleWays(a, b);
            if (k >= row.size()) {
                return -3;
            }
            row.sort(ORDER);
            List<Arc> way = row.get(k);
            if (!arc) {
                return length(way);
            }
            return i < 0 || i >= way.size() ? -1 : way.get(i).number;
        }

        private int widest(int a, int b) {
            if (!areNodes(a, b) || a == b) {
                return -1;
            }
            return simpleWays(a, b).stream()
                    .mapToInt(way -> way.stream().mapToInt(arc -> arc.weight).min().orElseThrow()).max().orElse(-3);
        }

        private int trust(int a, int b, int part) {
            if (!areNodes(a, b) || a == b) {
                return -1;
            }
            if (part < 0 || part > 1) {
                return -2;
            }
            long[] best = null;
            for (List<Arc> way : simpleWays(a, b)) {
                long[] trust = {1, 1};
                for (Arc arc : way) {
                    trust[0] *= arc.above;
                    trust[1] *= arc.below;
                }
                if (best == null || trust[0] * best[1] > best[0] * trust[1]) {
                    best = trust;
                }
            }
            if (best == null) {
                return -3;
            }
            int common = BigInteger.valueOf(best[0]).gcd(BigInteger.valueOf(best[1])).intValue();
            return (int) (best[part] / common);
        }

        /** All rings, each told from each of its arcs on; those that do not begin with the least are left out. */
        private List<Arc> ring() {
            List<Arc> least = List.of();
            for (Arc first : present()) {
                for (List<Arc> way : simpleWays(first.to, first.from)) {
                    List<Arc> ring = new ArrayList<>(way);
                    ring.add(0, first);
                    boolean told = way.stream().allMatch(arc -> arc.number > first.number);
                    if (told && (least.isEmpty() || ORDER.compare(ring, least) < 0)) {
                        least = ring;
                    }
                }
            }
            return least;
        }

        private int missed(int a, int b) {
            if (!areNodes(a, b) || a == b) {
                return -1;
            }
            List<List<Arc>> all = simpleWays(a, b);
            long greatest = all.stream().mapToInt(Model::length).min().orElse(Integer.MAX_VALUE);
            int most = -3;
            for (Arc missing : present()) {
                long without = all.stream().filter(way -> !way.contains(missing))
                        .mapToInt(Model::length).min().orElse(Integer.MAX_VALUE);
                if (without > greatest) {
                    greatest = without;
                    most = missing.number;
                }
            }
            return most;
        }
    }
}
