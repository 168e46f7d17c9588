import java.util.ArrayList;
import java.util.Arrays;
import java.util.List;
import java.util.Map;
import java.util.TreeMap;

/**
 * The document told once more, as plainly and as slowly as can be: everything is counted anew for
 * each thing that is tried. It shares no code with the class and keeps arcs by pairs, not in a square.
 */
final class Oracle {
    record Pair(int a, int b) implements Comparable<Pair> {
        static Pair of(int a, int b) {
            return new Pair(Math.min(a, b), Math.max(a, b));
        }

        @Override
        public int compareTo(Pair o) {
            return a != o.a ? Integer.compare(a, o.a) : Integer.compare(b, o.b);
        }
    }

    /** A level: weights, arcs, and (but for the first) the nodes of the level above in each. */
    static final class Net {
        final List<Integer> weights = new ArrayList<>();
        final Map<Pair, Integer> arcs = new TreeMap<>();
        final List<List<Integer>> made = new ArrayList<>();

        int size() {
            return weights.size();
        }

        int arc(int a, int b) {
            return arcs.getOrDefault(Pair.of(a, b), 0);
        }

        int total() {
            int t = 0;
            for (int w : weights) {
                t += w;
            }
            return t;
        }
    }

    private Net graph = new Net();
    private int k = 2;
    private int[] least = new int[4];
    private int[] most = {1000000, 1000000, 1000000, 1000000};
    private List<Integer> split = new ArrayList<>();

    private boolean isNode(int node) {
        return 0 <= node && node < graph.size();
    }

    private boolean isPart(int part) {
        return 0 <= part && part < k;
    }

    int node(int weight) {
        if (weight < 1 || weight > 1000) {
            return -1;
        }
        if (graph.size() == 40) {
            return -3;
        }
        graph.weights.add(weight);
        split.add(0);
        return graph.size() - 1;
    }

    int arc(int a, int b, int weight) {
        if (!isNode(a) || !isNode(b) || a == b || weight < 1 || weight > 1000) {
            return -1;
        }
        int then = graph.arc(a, b) + weight;
        if (then > 1000000) {
            return -3;
        }
        graph.arcs.put(Pair.of(a, b), then);
        return then;
    }

    int parts(int newK) {
        if (newK < 2 || newK > 4) {
            return -1;
        }
        int before = k;
        k = newK;
        least = new int[4];
        most = new int[] {1000000, 1000000, 1000000, 1000000};
        split.replaceAll(p -> 0);
        return before;
    }

    int bound(int part, int low, int high) {
        if (!isPart(part) || low < 0 || low > 1000000 || high < 0 || high > 1000000 || low > high) {
            return -1;
        }
        least[part] = low;
        most[part] = high;
        return 0;
    }

    int put(int node, int part) {
        if (!isNode(node) || !isPart(part)) {
            return -1;
        }
        return split.set(node, part);
    }

    int clear() {
        int nodes = graph.size();
        graph = new Net();
        split = new ArrayList<>();
        parts(2);
        return nodes;
    }

    private int volume(int node) {
        int found = 0;
        for (int p = 0; p < k; p++) {
            boolean there = false;
            for (int other = 0; other < graph.size(); other++) {
                there |= graph.arc(node, other) > 0 && split.get(other) == p;
            }
            found += there && p != split.get(node) ? 1 : 0;
        }
        return found;
    }

    int of(int node, int what) {
        if (!isNode(node) || what < 0 || what > 3) {
            return -1;
        }
        int neighbours = 0;
        for (Pair pair : graph.arcs.keySet()) {
            neighbours += pair.a() == node || pair.b() == node ? 1 : 0;
        }
        return new int[] {graph.weights.get(node), split.get(node), volume(node), neighbours}[what];
    }

    int between(int a, int b) {
        return isNode(a) && isNode(b) ? graph.arc(a, b) : -1;
    }

    int part(int part, int what) {
        if (!isPart(part) || what < 0 || what > 3) {
            return -1;
        }
        int nodes = 0;
        for (int p : split) {
            nodes += p == part ? 1 : 0;
        }
        return new int[] {sum(graph, split, part), nodes, least[part], most[part]}[what];
    }

    private static int sum(Net net, List<Integer> by, int part) {
        int sum = 0;
        for (int i = 0; i < net.size(); i++) {
            sum += by.get(i) == part ? net.weights.get(i) : 0;
        }
        return sum;
    }

    private static int cut(Net net, List<Integer> by) {
        int cut = 0;
        for (Map.Entry<Pair, Integer> e : net.arcs.entrySet()) {
            if (!by.get(e.getKey().a()).equals(by.get(e.getKey().b()))) {
                cut += e.getValue();
            }
        }
        return cut;
    }

    private int over(Net net, List<Integer> by) {
        int over = 0;
        for (int p = 0; p < k; p++) {
            int sum = sum(net, by, p);
            over += sum < least[p] ? least[p] - sum : 0;
            over += sum > most[p] ? sum - most[p] : 0;
        }
        return over;
    }

    int cut() {
        return cut(graph, split);
    }

    int over() {
        return over(graph, split);
    }

    int gain(int node, int part) {
        if (!isNode(node) || !isPart(part)) {
            return -100000000;
        }
        List<Integer> then = new ArrayList<>(split);
        then.set(node, part);
        return cut() - cut(graph, then);
    }

    private List<Net> levels() {
        List<Net> all = new ArrayList<>();
        all.add(graph);
        Net next = next(graph);
        while (next != null) {
            all.add(next);
            next = next(next);
        }
        return all;
    }

    private Net next(Net net) {
        if (net.size() <= 6) {
            return null;
        }
        int limit = graph.total() / (2 * k);
        List<List<Integer>> groups = new ArrayList<>();
        boolean[] joined = new boolean[net.size()];
        boolean any = false;
        for (int i = 0; i < net.size(); i++) {
            if (joined[i]) {
                continue;
            }
            List<Integer> fit = new ArrayList<>();
            for (int j = 0; j < net.size(); j++) {
                if (j != i && !joined[j] && net.arc(i, j) > 0
                        && net.weights.get(i) + net.weights.get(j) <= limit) {
                    fit.add(j);
                }
            }
            final int me = i;
            fit.sort((x, y) -> {
                if (net.arc(me, x) != net.arc(me, y)) {
                    return net.arc(me, y) - net.arc(me, x);
                }
                int byWeight = net.weights.get(x) - net.weights.get(y);
                return byWeight != 0 ? byWeight : x - y;
            });
            if (!fit.isEmpty()) {
                joined[i] = true;
                joined[fit.get(0)] = true;
                groups.add(List.of(i, fit.get(0)));
                any = true;
            } else {
                groups.add(List.of(i));
            }
        }
        if (!any) {
            return null;
        }
        groups.sort((x, y) -> least(x) - least(y));
        return joinedNet(net, groups);
    }

    private static int least(List<Integer> group) {
        int least = group.get(0);
        for (int i : group) {
            least = Math.min(least, i);
        }
        return least;
    }

    private static Net joinedNet(Net net, List<List<Integer>> groups) {
        Net made = new Net();
        for (List<Integer> group : groups) {
            int weight = 0;
            for (int i : group) {
                weight += net.weights.get(i);
            }
            made.weights.add(weight);
            made.made.add(group);
        }
        for (Map.Entry<Pair, Integer> e : net.arcs.entrySet()) {
            int a = groupOf(groups, e.getKey().a());
            int b = groupOf(groups, e.getKey().b());
            if (a != b) {
                made.arcs.merge(Pair.of(a, b), e.getValue(), Integer::sum);
            }
        }
        return made;
    }

    private static int groupOf(List<List<Integer>> groups, int node) {
        for (int g = 0; g < groups.size(); g++) {
            if (groups.get(g).contains(node)) {
                return g;
            }
        }
        throw new IllegalStateException("a node in no group");
    }

    int level(int l, int what) {
        if (l < 0 || what < 0 || what > 2) {
            return -1;
        }
        List<Net> all = levels();
        if (l >= all.size()) {
            return -2;
        }
        int sum = 0;
        for (int w : all.get(l).arcs.values()) {
            sum += w;
        }
        return new int[] {all.get(l).size(), all.get(l).arcs.size(), sum}[what];
    }

    int inLevel(int l, int node) {
        List<Net> all = levels();
        if (l < 0 || l >= all.size() || !isNode(node)) {
            return -1;
        }
        int at = node;
        for (int i = 1; i <= l; i++) {
            at = groupOf(all.get(i).made, at);
        }
        return at;
    }

    int levelOf(int l, int node, int what) {
        List<Net> all = levels();
        if (l < 0 || l >= all.size() || node < 0 || node >= all.get(l).size()) {
            return -1;
        }
        if (what == -1) {
            return all.get(l).weights.get(node);
        }
        return what < 0 || what >= all.get(l).size() ? -1 : all.get(l).arc(node, what);
    }

    private List<Integer> bestOfAll(Net net) {
        long all = 1;
        for (int i = 0; i < net.size(); i++) {
            all *= k;
        }
        List<Integer> best = null;
        int bestOver = 0;
        int bestCut = 0;
        for (long s = 0; s < all; s++) {
            Integer[] by = new Integer[net.size()];
            long left = s;
            for (int i = net.size() - 1; i >= 0; i--) {
                by[i] = (int) (left % k);
                left /= k;
            }
            List<Integer> tried = Arrays.asList(by);
            int over = over(net, tried);
            int cut = cut(net, tried);
            if (best == null || over < bestOver || over == bestOver && cut < bestCut) {
                best = new ArrayList<>(tried);
                bestOver = over;
                bestCut = cut;
            }
        }
        return best;
    }

    private List<Integer> grown(Net net) {
        List<Integer> nodes = new ArrayList<>();
        List<Integer> by = new ArrayList<>();
        for (int i = 0; i < net.size(); i++) {
            nodes.add(i);
            by.add(-1);
        }
        nodes.sort((x, y) -> net.weights.get(y) - net.weights.get(x));
        for (int node : nodes) {
            int to = 0;
            for (int p = 0; p < k; p++) {
                if (most[p] - sum(net, by, p) > most[to] - sum(net, by, to)) {
                    to = p;
                }
            }
            by.set(node, to);
        }
        return by;
    }

    private boolean better(Net net, List<Integer> one, List<Integer> other) {
        int over = over(net, one);
        int otherOver = over(net, other);
        return over < otherOver || over == otherOver && cut(net, one) < cut(net, other);
    }

    private List<Integer> pass(Net net, List<Integer> begin) {
        List<List<Integer>> seen = new ArrayList<>();
        seen.add(begin);
        List<Integer> free = new ArrayList<>();
        for (int i = 0; i < net.size(); i++) {
            free.add(i);
        }
        while (true) {
            List<Integer> now = seen.get(seen.size() - 1);
            List<Integer> best = null;
            int bestNode = -1;
            for (int node : free) {
                for (int p = 0; p < k; p++) {
                    List<Integer> then = new ArrayList<>(now);
                    then.set(node, p);
                    // A lesser cut behind it is a greater gain: all start from the same split.
                    if (p != now.get(node) && over(net, then) <= over(net, now)
                            && (best == null || better(net, then, best))) {
                        best = then;
                        bestNode = node;
                    }
                }
            }
            if (best == null) {
                break;
            }
            free.remove(Integer.valueOf(bestNode));
            seen.add(best);
        }
        List<Integer> end = begin;
        for (List<Integer> one : seen) {
            if (better(net, one, end)) {
                end = one;
            }
        }
        return end;
    }

    private int betterPasses = 0;

    private List<Integer> moves(Net net, List<Integer> begin) {
        List<Integer> now = begin;
        betterPasses = 0;
        for (int i = 0; i < 8; i++) {
            List<Integer> then = pass(net, now);
            if (!better(net, then, now)) {
                break;
            }
            betterPasses++;
            now = then;
        }
        return now;
    }

    private int result() {
        return over() == 0 ? cut() : -10 - over();
    }

    int run() {
        List<Net> all = levels();
        Net last = all.get(all.size() - 1);
        List<Integer> by = moves(last, last.size() <= 6 ? bestOfAll(last) : grown(last));
        for (int l = all.size() - 2; l >= 0; l--) {
            List<Integer> up = new ArrayList<>();
            for (int i = 0; i < all.get(l).size(); i++) {
                up.add(by.get(groupOf(all.get(l + 1).made, i)));
            }
            by = moves(all.get(l), up);
        }
        split = new ArrayList<>(by);
        return result();
    }

    int refine() {
        split = new ArrayList<>(moves(graph, split));
        return betterPasses;
    }

    int grow() {
        split = grown(graph);
        return cut();
    }

    private List<Integer> ordered(int seed) {
        List<Integer> left = new ArrayList<>();
        for (int i = 0; i < graph.size(); i++) {
            left.add(i);
        }
        List<Integer> order = new ArrayList<>();
        long x = seed & 0xffffffffL;
        while (!left.isEmpty()) {
            x = (x * 1103515245L + 12345L) & 0xffffffffL;
            long bits = (x / 65536) % 32768;
            order.add(left.remove((int) (bits % left.size())));
        }
        return order;
    }

    int stream(int seed, int alpha) {
        if (alpha < 0 || alpha > 1000) {
            return -1;
        }
        split.replaceAll(p -> -1);
        for (int node : ordered(seed)) {
            int to = -1;
            long toWorth = Long.MIN_VALUE;
            int lightest = 0;
            for (int p = 0; p < k; p++) {
                int there = sum(graph, split, p);
                if (there < sum(graph, split, lightest)) {
                    lightest = p;
                }
                long arcs = 0;
                for (int other = 0; other < graph.size(); other++) {
                    arcs += split.get(other) == p ? graph.arc(node, other) : 0;
                }
                long worth = 1000 * arcs - (long) alpha * there;
                if (there + graph.weights.get(node) <= most[p] && worth > toWorth) {
                    to = p;
                    toWorth = worth;
                }
            }
            split.set(node, to == -1 ? lightest : to);
        }
        return cut();
    }

    int order(int seed, int i) {
        return isNode(i) ? ordered(seed).get(i) : -2;
    }

    int exact() {
        if (Math.pow(k, graph.size()) > 60000) {
            return -4;
        }
        split = bestOfAll(graph);
        return result();
    }

    private List<Pair> unlike() {
        List<Pair> found = new ArrayList<>();
        for (Pair pair : graph.arcs.keySet()) {
            if (!split.get(pair.a()).equals(split.get(pair.b()))) {
                found.add(pair);
            }
        }
        return found;
    }

    private static List<Pair> withoutEnd(List<Pair> arcs, List<Integer> nodes) {
        List<Pair> found = new ArrayList<>();
        for (Pair pair : arcs) {
            if (!nodes.contains(pair.a()) && !nodes.contains(pair.b())) {
                found.add(pair);
            }
        }
        return found;
    }

    private List<Integer> divider() {
        List<Pair> arcs = unlike();
        List<Integer> in = new ArrayList<>();
        while (!withoutEnd(arcs, in).isEmpty()) {
            int[] ends = new int[graph.size()];
            for (Pair pair : withoutEnd(arcs, in)) {
                ends[pair.a()]++;
                ends[pair.b()]++;
            }
            int best = -1;
            for (int i = 0; i < graph.size(); i++) {
                if (best < 0 || ends[i] > ends[best]
                        || ends[i] == ends[best] && graph.weights.get(i) < graph.weights.get(best)) {
                    best = i;
                }
            }
            in.add(best);
        }
        for (int i = graph.size() - 1; i >= 0; i--) {
            List<Integer> less = new ArrayList<>(in);
            less.remove(Integer.valueOf(i));
            if (withoutEnd(arcs, less).isEmpty()) {
                in = less;
            }
        }
        in.sort(Integer::compare);
        return in;
    }

    int separator(int i) {
        List<Integer> in = divider();
        return 0 <= i && i < in.size() ? in.get(i) : -2;
    }

    int count(int what) {
        int volumes = 0;
        for (int i = 0; i < graph.size(); i++) {
            volumes += volume(i);
        }
        return switch (what) {
            case 0 -> graph.size();
            case 1 -> k;
            case 2 -> graph.arcs.size();
            case 3 -> levels().size();
            case 4 -> divider().size();
            case 5 -> volumes;
            default -> -1;
        };
    }
}
