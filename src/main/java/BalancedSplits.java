import java.util.Arrays;

/** A graph split into parts within bounds; see README.md and the document's promises 1 to 24. */
public final class BalancedSplits {
    public static final int BAD = -1, NONE = -2, FULL = -3, TURN = -4;

    private static final int MAX_NODES = 40;
    private static final int MAX_WEIGHT = 1000;
    private static final int MAX_ARC = 1000000;
    private static final int MIN_PARTS = 2;
    private static final int MAX_PARTS = 4;
    private static final int MAX_BOUND = 1000000;
    private static final int MAX_ALPHA = 1000;
    private static final int MAX_PASSES = 8;
    private static final int MAX_SPLITS = 60000;
    private static final int SMALL = 6;
    private static final int BAD_GAIN = -100000000;
    private static final int NO_FIT = -10;
    private static final int NOWHERE = -1;

    // Above every OVER and every CUT that there can be.
    private static final int WORST = 2000000000;

    // Each level has fewer nodes than the one above and none is made of SMALL or fewer: 35 at most.
    private static final int MAX_LEVELS = 40;

    // 2 to the power of 16 is above MAX_SPLITS, so no search goes through more nodes than this.
    private static final int MAX_TRIED = 16;

    private final Split top = new Split();
    private final Split low = new Split();
    private final Levels levels = new Levels();
    private final Search search = new Search();
    private final Mover mover = new Mover();
    private final Order orders = new Order();
    private final Separator divider = new Separator();

    public BalancedSplits() {
    }

    public int node(int weight) {
        if (weight < 1 || weight > MAX_WEIGHT) {
            return BAD;
        }
        Graph graph = top.graph;
        if (graph.size >= MAX_NODES) {
            return FULL;
        }
        int number = graph.size;
        graph.weight[number] = weight;
        graph.size = number + 1;
        top.home[number] = 0;
        levels.fresh = false;
        return number;
    }

    public int arc(int a, int b, int weight) {
        Graph graph = top.graph;
        if (!graph.has(a) || !graph.has(b) || a == b || weight < 1 || weight > MAX_WEIGHT) {
            return BAD;
        }
        int sum = graph.arcOf(a, b) + weight;
        if (sum > MAX_ARC) {
            return FULL;
        }
        graph.addArc(a, b, weight);
        levels.fresh = false;
        return sum;
    }

    public int parts(int k) {
        if (k < MIN_PARTS || k > MAX_PARTS) {
            return BAD;
        }
        int before = top.bounds.k;
        startParts(k);
        return before;
    }

    public int bound(int part, int least, int most) {
        if (!top.bounds.has(part) || least < 0 || most > MAX_BOUND || least > most) {
            return BAD;
        }
        top.bounds.least[part] = least;
        top.bounds.most[part] = most;
        return 0;
    }

    public int put(int node, int part) {
        if (!top.graph.has(node) || !top.bounds.has(part)) {
            return BAD;
        }
        int before = top.home[node];
        top.home[node] = part;
        return before;
    }

    public int clear() {
        int nodes = top.graph.size;
        top.graph.empty(0);
        startParts(MIN_PARTS);
        return nodes;
    }

    public int of(int node, int what) {
        if (!top.graph.has(node)) {
            return BAD;
        }
        switch (what) {
            case 0:
                return top.graph.weight[node];
            case 1:
                return top.home[node];
            case 2:
                top.recount();
                return top.volume(node);
            case 3:
                return top.graph.neighbours(node);
            default:
                return BAD;
        }
    }

    public int between(int a, int b) {
        if (!top.graph.has(a) || !top.graph.has(b)) {
            return BAD;
        }
        return top.graph.arcOf(a, b);
    }

    public int part(int part, int what) {
        if (!top.bounds.has(part)) {
            return BAD;
        }
        switch (what) {
            case 0:
                top.recount();
                return top.sum[part];
            case 1:
                return top.nodesIn(part);
            case 2:
                return top.bounds.least[part];
            case 3:
                return top.bounds.most[part];
            default:
                return BAD;
        }
    }

    public int cut() {
        top.recount();
        return top.cut;
    }

    public int over() {
        top.recount();
        return top.over;
    }

    public int gain(int node, int part) {
        if (!top.graph.has(node) || !top.bounds.has(part)) {
            return BAD_GAIN;
        }
        top.recount();
        return top.gainOf(node, part);
    }

    public int level(int l, int what) {
        if (l < 0 || what < 0 || what > 2) {
            return BAD;
        }
        if (!hasLevel(l)) {
            return NONE;
        }
        levels.drawInto(l, top.graph, low.graph);
        switch (what) {
            case 0:
                return low.graph.size;
            case 1:
                return low.graph.arcCount();
            default:
                return low.graph.arcSum();
        }
    }

    public int inLevel(int l, int node) {
        if (!top.graph.has(node) || !hasLevel(l)) {
            return BAD;
        }
        return levels.holder(l, node);
    }

    public int levelOf(int l, int node, int what) {
        if (!hasLevel(l)) {
            return BAD;
        }
        levels.drawInto(l, top.graph, low.graph);
        if (!low.graph.has(node)) {
            return BAD;
        }
        if (what == -1) {
            return low.graph.weight[node];
        }
        return low.graph.has(what) ? low.graph.arcOf(node, what) : BAD;
    }

    public int run() {
        levels.renew(top.graph, top.bounds.k, low.graph);
        low.bounds.copyOf(top.bounds);
        int last = levels.count - 1;
        for (int l = last; l >= 0; l--) {
            levels.drawInto(l, top.graph, low.graph);
            if (l == last) {
                splitFirst();
            } else {
                levels.bringDown(l, top.home, low.home, top.graph.size);
            }
            mover.doMoves(low);
            levels.bringUp(l, low.home, top.home, top.graph.size);
        }
        return cutOrMiss();
    }

    public int refine() {
        return mover.doMoves(top);
    }

    public int grow() {
        top.growAll();
        top.recount();
        return top.cut;
    }

    public int stream(int seed, int alpha) {
        if (alpha < 0 || alpha > MAX_ALPHA) {
            return BAD;
        }
        orders.draw(seed, top.graph.size);
        top.streamAll(orders.row, alpha);
        top.recount();
        return top.cut;
    }

    public int order(int seed, int i) {
        if (!top.graph.has(i)) {
            return NONE;
        }
        orders.draw(seed, top.graph.size);
        return orders.row[i];
    }

    public int exact() {
        if (hasTooManySplits()) {
            return TURN;
        }
        search.findBest(top);
        return cutOrMiss();
    }

    public int separator(int i) {
        divider.find(top);
        return divider.nodeAt(i);
    }

    public int count(int what) {
        switch (what) {
            case 0:
                return top.graph.size;
            case 1:
                return top.bounds.k;
            case 2:
                return top.graph.arcCount();
            case 3:
                levels.renew(top.graph, top.bounds.k, low.graph);
                return levels.count;
            case 4:
                divider.find(top);
                return divider.held();
            case 5:
                top.recount();
                return top.volumes();
            default:
                return BAD;
        }
    }

    private void startParts(int k) {
        top.bounds.start(k);
        Arrays.fill(top.home, 0);
        levels.fresh = false;
    }

    private boolean hasLevel(int l) {
        levels.renew(top.graph, top.bounds.k, low.graph);
        return l >= 0 && l < levels.count;
    }

    private void splitFirst() {
        if (low.graph.size <= SMALL) {
            search.findBest(low);
        } else {
            low.growAll();
        }
    }

    private boolean hasTooManySplits() {
        int splits = 1;
        for (int i = 0; i < top.graph.size && splits <= MAX_SPLITS; i++) {
            splits *= top.bounds.k;
        }
        return splits > MAX_SPLITS;
    }

    private int cutOrMiss() {
        top.recount();
        return top.over == 0 ? top.cut : NO_FIT - top.over;
    }

    /** Nodes with their weights, and a square of the arcs' weights, 0 where there is none. */
    private static final class Graph {
        int size = 0;
        final int[] weight = new int[MAX_NODES];
        private final int[] arcs = new int[MAX_NODES * MAX_NODES];

        boolean has(int node) {
            return node >= 0 && node < size;
        }

        void empty(int newSize) {
            size = newSize;
            Arrays.fill(weight, 0);
            Arrays.fill(arcs, 0);
        }

        int arcOf(int a, int b) {
            return arcs[a * MAX_NODES + b];
        }

        void addArc(int a, int b, int more) {
            arcs[a * MAX_NODES + b] += more;
            arcs[b * MAX_NODES + a] += more;
        }

        int total() {
            int sum = 0;
            for (int i = 0; i < size; i++) {
                sum += weight[i];
            }
            return sum;
        }

        int neighbours(int node) {
            int found = 0;
            for (int other = 0; other < size; other++) {
                if (arcOf(node, other) > 0) {
                    found++;
                }
            }
            return found;
        }

        int arcCount() {
            int ends = 0;
            for (int i = 0; i < size; i++) {
                ends += neighbours(i);
            }
            return ends >> 1;
        }

        int arcSum() {
            int sum = 0;
            for (int a = 0; a < size; a++) {
                for (int b = a + 1; b < size; b++) {
                    sum += arcOf(a, b);
                }
            }
            return sum;
        }
    }

    /** How many parts there are, and the least and most of each. */
    private static final class Bounds {
        int k = MIN_PARTS;
        final int[] least = new int[MAX_PARTS];
        final int[] most = {MAX_BOUND, MAX_BOUND, MAX_BOUND, MAX_BOUND};

        boolean has(int part) {
            return part >= 0 && part < k;
        }

        void start(int newK) {
            k = newK;
            Arrays.fill(least, 0);
            Arrays.fill(most, MAX_BOUND);
        }

        void copyOf(Bounds other) {
            k = other.k;
            System.arraycopy(other.least, 0, least, 0, MAX_PARTS);
            System.arraycopy(other.most, 0, most, 0, MAX_PARTS);
        }

        int miss(int part, int sum) {
            if (sum < least[part]) {
                return least[part] - sum;
            }
            return sum > most[part] ? sum - most[part] : 0;
        }
    }

    /**
     * A graph with the part of each node. What is counted from these (sum, link, cut, over) holds
     * from recount() on, as long as shift() alone changes the parts.
     */
    private static final class Split {
        final Graph graph = new Graph();
        final Bounds bounds = new Bounds();
        final int[] home = new int[MAX_NODES];
        final int[] sum = new int[MAX_PARTS];
        private final int[] link = new int[MAX_NODES * MAX_PARTS];
        int cut = 0;
        int over = 0;

        void recount() {
            Arrays.fill(sum, 0);
            Arrays.fill(link, 0);
            cut = 0;
            for (int node = 0; node < graph.size; node++) {
                sum[home[node]] += graph.weight[node];
                recountLinks(node);
            }
            over = 0;
            for (int p = 0; p < bounds.k; p++) {
                over += bounds.miss(p, sum[p]);
            }
        }

        private void recountLinks(int node) {
            for (int other = 0; other < graph.size; other++) {
                int weight = graph.arcOf(node, other);
                link[node * MAX_PARTS + home[other]] += weight;
                if (other < node && home[other] != home[node]) {
                    cut += weight;
                }
            }
        }

        int gainOf(int node, int to) {
            return link[node * MAX_PARTS + to] - link[node * MAX_PARTS + home[node]];
        }

        int overBehind(int node, int to) {
            int from = home[node];
            if (from == to) {
                return over;
            }
            int weight = graph.weight[node];
            return over - bounds.miss(from, sum[from]) - bounds.miss(to, sum[to])
                    + bounds.miss(from, sum[from] - weight) + bounds.miss(to, sum[to] + weight);
        }

        void shift(int node, int to) {
            int from = home[node];
            over = overBehind(node, to);
            cut -= gainOf(node, to);
            sum[from] -= graph.weight[node];
            sum[to] += graph.weight[node];
            for (int other = 0; other < graph.size; other++) {
                int weight = graph.arcOf(node, other);
                link[other * MAX_PARTS + from] -= weight;
                link[other * MAX_PARTS + to] += weight;
            }
            home[node] = to;
        }

        int nodesIn(int part) {
            int found = 0;
            for (int node = 0; node < graph.size; node++) {
                if (home[node] == part) {
                    found++;
                }
            }
            return found;
        }

        int volume(int node) {
            int found = 0;
            for (int p = 0; p < bounds.k; p++) {
                if (p != home[node] && link[node * MAX_PARTS + p] > 0) {
                    found++;
                }
            }
            return found;
        }

        int volumes() {
            int all = 0;
            for (int node = 0; node < graph.size; node++) {
                all += volume(node);
            }
            return all;
        }

        private void takeAllOut() {
            Arrays.fill(home, NOWHERE);
            Arrays.fill(sum, 0);
        }

        private void place(int node, int part) {
            home[node] = part;
            sum[part] += graph.weight[node];
        }

        void growAll() {
            takeAllOut();
            for (int placed = 0; placed < graph.size; placed++) {
                place(heaviestOutside(), roomiestPart());
            }
        }

        private int heaviestOutside() {
            int best = 0;
            int bestWeight = 0;
            for (int node = 0; node < graph.size; node++) {
                if (home[node] == NOWHERE && graph.weight[node] > bestWeight) {
                    best = node;
                    bestWeight = graph.weight[node];
                }
            }
            return best;
        }

        private int roomiestPart() {
            int best = 0;
            for (int p = 1; p < bounds.k; p++) {
                if (bounds.most[p] - sum[p] > bounds.most[best] - sum[best]) {
                    best = p;
                }
            }
            return best;
        }

        void streamAll(int[] row, int alpha) {
            takeAllOut();
            for (int i = 0; i < graph.size; i++) {
                int node = row[i];
                int part = likedPart(node, alpha);
                place(node, part == NOWHERE ? lightestPart() : part);
            }
        }

        private int likedPart(int node, int alpha) {
            int best = NOWHERE;
            long bestWorth = 0;
            for (int p = 0; p < bounds.k; p++) {
                if (sum[p] + graph.weight[node] <= bounds.most[p]) {
                    long worth = 1000L * arcsInto(node, p) - (long) alpha * sum[p];
                    if (best == NOWHERE || worth > bestWorth) {
                        best = p;
                        bestWorth = worth;
                    }
                }
            }
            return best;
        }

        private int arcsInto(int node, int part) {
            int found = 0;
            for (int other = 0; other < graph.size; other++) {
                if (home[other] == part) {
                    found += graph.arcOf(node, other);
                }
            }
            return found;
        }

        private int lightestPart() {
            int best = 0;
            for (int p = 1; p < bounds.k; p++) {
                if (sum[p] < sum[best]) {
                    best = p;
                }
            }
            return best;
        }
    }

    /**
     * The levels, kept only as the node of each level that holds a node of the graph: a level's
     * weights and arcs are drawn from the graph when they are wanted, to keep the room small.
     */
    private static final class Levels {
        boolean fresh = false;
        int count = 1;
        private final int[] size = new int[MAX_LEVELS];
        private final int[] holders = new int[MAX_LEVELS * MAX_NODES];
        private final int[] mate = new int[MAX_NODES];
        private final int[] number = new int[MAX_NODES];

        int holder(int l, int node) {
            return holders[l * MAX_NODES + node];
        }

        void renew(Graph graph, int k, Graph scratch) {
            if (fresh) {
                return;
            }
            fresh = true;
            count = 1;
            size[0] = graph.size;
            for (int node = 0; node < graph.size; node++) {
                holders[node] = node;
            }
            for (int next = 1; next < MAX_LEVELS && makeLevel(next, graph, k, scratch); next++) {
                count = next + 1;
            }
        }

        private boolean makeLevel(int l, Graph graph, int k, Graph scratch) {
            if (size[l - 1] <= SMALL) {
                return false;
            }
            drawInto(l - 1, graph, scratch);
            if (!joinAll(scratch, k)) {
                return false;
            }
            size[l] = numberJoined(scratch.size);
            for (int node = 0; node < graph.size; node++) {
                holders[l * MAX_NODES + node] = number[holder(l - 1, node)];
            }
            return true;
        }

        private boolean joinAll(Graph graph, int k) {
            Arrays.fill(mate, NOWHERE);
            int total = graph.total();
            boolean any = false;
            for (int node = 0; node < graph.size; node++) {
                int other = mate[node] == NOWHERE ? bestMate(graph, node, total, 2 * k) : NOWHERE;
                if (other != NOWHERE) {
                    mate[node] = other;
                    mate[other] = node;
                    any = true;
                }
            }
            return any;
        }

        private int bestMate(Graph graph, int node, int total, int shares) {
            int best = NOWHERE;
            int bestArc = 0;
            int bestWeight = 0;
            for (int other = 0; other < graph.size; other++) {
                int arc = mate[other] == NOWHERE ? graph.arcOf(node, other) : 0;
                int weight = graph.weight[other];
                // Both within total / shares rounded down, told without a division.
                boolean light = (graph.weight[node] + weight) * shares <= total;
                boolean liked = arc > bestArc || arc > 0 && arc == bestArc && weight < bestWeight;
                if (light && liked) {
                    best = other;
                    bestArc = arc;
                    bestWeight = weight;
                }
            }
            return best;
        }

        private int numberJoined(int nodes) {
            int next = 0;
            for (int node = 0; node < nodes; node++) {
                boolean isLeast = mate[node] == NOWHERE || mate[node] > node;
                number[node] = isLeast ? next : number[mate[node]];
                next += isLeast ? 1 : 0;
            }
            return next;
        }

        void drawInto(int l, Graph graph, Graph drawn) {
            drawn.empty(size[l]);
            for (int a = 0; a < graph.size; a++) {
                int holderA = holder(l, a);
                drawn.weight[holderA] += graph.weight[a];
                for (int b = a + 1; b < graph.size; b++) {
                    int holderB = holder(l, b);
                    if (holderA != holderB) {
                        drawn.addArc(holderA, holderB, graph.arcOf(a, b));
                    }
                }
            }
        }

        void bringDown(int l, int[] graphHome, int[] levelHome, int nodes) {
            for (int node = 0; node < nodes; node++) {
                levelHome[holder(l, node)] = graphHome[node];
            }
        }

        void bringUp(int l, int[] levelHome, int[] graphHome, int nodes) {
            for (int node = 0; node < nodes; node++) {
                graphHome[node] = levelHome[holder(l, node)];
            }
        }
    }

    /** Tries all splits in order, but for those that cannot be better than the best one so far. */
    private static final class Search {
        private final int[] tried = new int[MAX_NODES];
        private final int[] best = new int[MAX_NODES];
        private final int[] sum = new int[MAX_PARTS];
        private int bestOver = WORST;
        private int bestCut = WORST;

        void findBest(Split split) {
            Arrays.fill(sum, 0);
            bestOver = WORST;
            bestCut = WORST;
            tryFrom(split, 0, 0, split.graph.total());
            System.arraycopy(best, 0, split.home, 0, split.graph.size);
        }

        private void tryFrom(Split split, int node, int cut, int rest) {
            int floor = leastOver(split.bounds, rest);
            if (floor > bestOver || floor == bestOver && cut >= bestCut) {
                return;
            }
            if (node >= split.graph.size || node >= MAX_TRIED) {
                System.arraycopy(tried, 0, best, 0, MAX_NODES);
                bestOver = floor;
                bestCut = cut;
                return;
            }
            int weight = split.graph.weight[node];
            for (int p = 0; p < split.bounds.k; p++) {
                tried[node] = p;
                sum[p] += weight;
                tryFrom(split, node + 1, cut + cutBehind(split.graph, node), rest - weight);
                sum[p] -= weight;
            }
        }

        // Weight that is still to come can mend what is below least, never what is above most.
        private int leastOver(Bounds bounds, int rest) {
            int below = 0;
            int above = 0;
            for (int p = 0; p < bounds.k; p++) {
                below += Math.max(0, bounds.least[p] - sum[p]);
                above += Math.max(0, sum[p] - bounds.most[p]);
            }
            return above + Math.max(0, below - rest);
        }

        private int cutBehind(Graph graph, int node) {
            int found = 0;
            for (int other = 0; other < node; other++) {
                if (tried[other] != tried[node]) {
                    found += graph.arcOf(node, other);
                }
            }
            return found;
        }
    }

    /** Moves nodes by their gains, pass by pass. */
    private static final class Mover {
        private final boolean[] free = new boolean[MAX_NODES];
        private final int[] best = new int[MAX_NODES];
        private int bestOver = 0;
        private int bestCut = 0;
        private int nextNode = NOWHERE;
        private int nextPart = NOWHERE;
        private int nextOver = 0;
        private int nextGain = 0;

        int doMoves(Split split) {
            int better = 0;
            while (better < MAX_PASSES && doPass(split)) {
                better++;
            }
            return better;
        }

        private boolean doPass(Split split) {
            split.recount();
            for (int node = 0; node < MAX_NODES; node++) {
                free[node] = true;
            }
            keepBest(split);
            boolean better = false;
            for (int step = 0; step < split.graph.size && findNext(split); step++) {
                split.shift(nextNode, nextPart);
                free[nextNode] = false;
                if (isBetter(split)) {
                    keepBest(split);
                    better = true;
                }
            }
            System.arraycopy(best, 0, split.home, 0, MAX_NODES);
            return better;
        }

        private void keepBest(Split split) {
            System.arraycopy(split.home, 0, best, 0, MAX_NODES);
            bestOver = split.over;
            bestCut = split.cut;
        }

        private boolean isBetter(Split split) {
            return split.over < bestOver || split.over == bestOver && split.cut < bestCut;
        }

        private boolean findNext(Split split) {
            nextNode = NOWHERE;
            nextOver = split.over;
            nextGain = 0;
            for (int node = 0; node < split.graph.size; node++) {
                for (int p = 0; free[node] && p < split.bounds.k; p++) {
                    if (p != split.home[node]) {
                        weigh(split, node, p);
                    }
                }
            }
            return nextNode != NOWHERE;
        }

        private void weigh(Split split, int node, int part) {
            int over = split.overBehind(node, part);
            int gain = split.gainOf(node, part);
            boolean liked = nextNode == NOWHERE || gain > nextGain;
            if (over < nextOver || over == nextOver && liked) {
                nextNode = node;
                nextPart = part;
                nextOver = over;
                nextGain = gain;
            }
        }
    }

    /** The order of a seed. */
    private static final class Order {
        final int[] row = new int[MAX_NODES];
        private final int[] waiting = new int[MAX_NODES];

        void draw(int seed, int nodes) {
            for (int node = 0; node < nodes; node++) {
                waiting[node] = node;
            }
            int x = seed;
            for (int left = nodes; left > 0; left--) {
                x = x * 1103515245 + 12345;
                int place = (x >>> 16 & 0x7fff) % left;
                row[nodes - left] = waiting[place];
                System.arraycopy(waiting, place + 1, waiting, place, left - 1 - place);
            }
        }
    }

    /** The nodes that hold an end of every arc between unlike parts. */
    private static final class Separator {
        private final boolean[] inside = new boolean[MAX_NODES];
        private final int[] open = new int[MAX_NODES];
        private int nodes = 0;

        void find(Split split) {
            nodes = split.graph.size;
            start(split);
            for (int step = 0; step < nodes; step++) {
                int node = busiest(split.graph);
                if (open[node] > 0) {
                    takeIn(split, node);
                }
            }
            for (int node = nodes - 1; node >= 0; node--) {
                inside[node] = inside[node] && isNeeded(split, node);
            }
        }

        private static boolean isCut(Split split, int a, int b) {
            return split.graph.arcOf(a, b) > 0 && split.home[a] != split.home[b];
        }

        private void start(Split split) {
            for (int a = 0; a < nodes; a++) {
                inside[a] = false;
                open[a] = 0;
                for (int b = 0; b < nodes; b++) {
                    if (isCut(split, a, b)) {
                        open[a]++;
                    }
                }
            }
        }

        private int busiest(Graph graph) {
            int best = 0;
            for (int node = 1; node < nodes; node++) {
                boolean lighter = graph.weight[node] < graph.weight[best];
                if (open[node] > open[best] || open[node] == open[best] && lighter) {
                    best = node;
                }
            }
            return best;
        }

        private void takeIn(Split split, int node) {
            inside[node] = true;
            open[node] = 0;
            for (int other = 0; other < nodes; other++) {
                if (!inside[other] && isCut(split, node, other)) {
                    open[other]--;
                }
            }
        }

        private boolean isNeeded(Split split, int node) {
            for (int other = 0; other < nodes; other++) {
                if (!inside[other] && isCut(split, node, other)) {
                    return true;
                }
            }
            return false;
        }

        int held() {
            int found = 0;
            for (int node = 0; node < nodes; node++) {
                found += inside[node] ? 1 : 0;
            }
            return found;
        }

        int nodeAt(int i) {
            int place = 0;
            for (int node = 0; node < nodes; node++) {
                if (inside[node]) {
                    if (place == i) {
                        return node;
                    }
                    place++;
                }
            }
            return NONE;
        }
    }
}
