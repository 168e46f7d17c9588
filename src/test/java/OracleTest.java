import java.util.Random;

/** Runs of calls by fixed seeds, each answer beside the Oracle's. */
public final class OracleTest {
    private static final int MOST_CALLS = 512;
    private final Check check = new Check("OracleTest");
    private Random dice;
    private BalancedSplits real;
    private Oracle oracle;
    private String run;
    private int calls;

    public static void main(String[] args) {
        int runs = args.length > 0 ? Integer.parseInt(args[0]) : 1500;
        int from = args.length > 1 ? Integer.parseInt(args[1]) : 0;
        OracleTest test = new OracleTest();
        for (int seed = from; seed < from + runs && !test.check.hasWrong(); seed++) {
            test.oneRun(seed);
        }
        test.check.end();
    }

    private void oneRun(int seed) {
        dice = new Random(seed);
        real = new BalancedSplits();
        oracle = new Oracle();
        run = "run " + seed + ": ";
        calls = 0;
        int shape = dice.nextInt(6);
        int nodes = shape == 0 ? dice.nextInt(8) : shape < 4 ? dice.nextInt(19) : dice.nextInt(41);
        int heaviest = pick(1, 3, 10, 1000);
        for (int i = 0; i < nodes; i++) {
            node(1 + dice.nextInt(heaviest));
        }
        if (dice.nextInt(4) > 0) {
            parts(2 + dice.nextInt(3));
        }
        arcs(nodes);
        bounds();
        int steps = 30 + dice.nextInt(60);
        for (int i = 0; i < steps && calls < MOST_CALLS - 90; i++) {
            step();
        }
        lookAtAll();
    }

    private int pick(int... from) {
        return from[dice.nextInt(from.length)];
    }

    private int anyNode() {
        int nodes = oracle.count(0);
        return dice.nextInt(15) == 0 ? pick(-1, nodes, 40, -7, Integer.MIN_VALUE, Integer.MAX_VALUE)
                : dice.nextInt(Math.max(1, nodes));
    }

    private int anyPart() {
        return dice.nextInt(15) == 0 ? pick(-1, oracle.count(1), 4, Integer.MIN_VALUE)
                : dice.nextInt(oracle.count(1));
    }

    private void arcs(int nodes) {
        if (nodes < 2) {
            return;
        }
        int heaviest = pick(1, 3, 10, 1000);
        int shape = dice.nextInt(5);
        int wanted = shape == 0 ? dice.nextInt(4) : dice.nextInt(3 * nodes);
        for (int i = 0; i < wanted && calls < 200; i++) {
            int a = shape == 1 ? i % nodes : shape == 2 ? 0 : dice.nextInt(nodes);
            int b = shape == 1 ? (i + 1) % nodes : dice.nextInt(nodes);
            if (shape == 4 && dice.nextInt(8) > 0) {
                b = Math.min(nodes - 1, a / 4 * 4 + dice.nextInt(4));
            }
            arc(a, b, 1 + dice.nextInt(heaviest));
        }
    }

    private int total() {
        int total = 0;
        for (int i = 0; i < oracle.count(0); i++) {
            total += oracle.of(i, 0);
        }
        return total;
    }

    private void bounds() {
        int k = oracle.count(1);
        int share = total() / k;
        int kind = dice.nextInt(5);
        for (int p = 0; p < k; p++) {
            int slack = 1 + dice.nextInt(2 + share / 2);
            if (kind == 1) {
                bound(p, Math.max(0, share - slack), share + slack);
            } else if (kind == 2) {
                bound(p, 0, share + dice.nextInt(2 + share));
            } else if (kind == 3) {
                int least = dice.nextInt(2 + 2 * share);
                bound(p, least, least + dice.nextInt(2 + share));
            } else if (kind == 4 && dice.nextBoolean()) {
                bound(p, share, share);
            }
        }
    }

    private void step() {
        switch (dice.nextInt(26)) {
            case 0 -> node(pick(0, 1, 2, 5, 1000, 1001, -3));
            case 1 -> arc(anyNode(), anyNode(), pick(0, 1, 2, 7, 1000, 1001, -5));
            case 2 -> {
                if (dice.nextInt(4) == 0) {
                    parts(pick(1, 2, 3, 4, 5, -2));
                    bounds();
                }
            }
            case 3 -> bound(anyPart(), pick(0, 1, 5, 20, -1, 1000000, 1000001),
                    pick(0, 1, 5, 20, 100, -1, 1000000, 1000001));
            case 4, 5 -> put(anyNode(), anyPart());
            case 6 -> {
                if (dice.nextInt(20) == 0) {
                    due("clear()", real.clear(), oracle.clear());
                }
            }
            case 7 -> of(anyNode(), dice.nextInt(6) - 1);
            case 8 -> between(anyNode(), anyNode());
            case 9 -> part(anyPart(), dice.nextInt(6) - 1);
            case 10 -> due("over()", real.over(), oracle.over());
            case 11, 12 -> gain(anyNode(), anyPart());
            case 13 -> level(dice.nextInt(6) - 1, dice.nextInt(5) - 1);
            case 14 -> inLevel(dice.nextInt(6) - 1, anyNode());
            case 15 -> levelOf(dice.nextInt(5) - 1, anyNode(), dice.nextInt(9) - 2);
            case 16, 17 -> due("run()", real.run(), oracle.run());
            case 18 -> due("refine()", real.refine(), oracle.refine());
            case 19 -> due("grow()", real.grow(), oracle.grow());
            case 20, 21 -> stream(dice.nextInt(), pick(0, 1, 10, 100, 1000, 1001, -1));
            case 22 -> order(dice.nextInt(), anyNode());
            case 23 -> exact();
            case 24 -> separator(dice.nextInt(8) - 1);
            default -> count(dice.nextInt(8) - 1);
        }
        due("cut()", real.cut(), oracle.cut());
    }

    private void lookAtAll() {
        for (int i = 0; i < oracle.count(0); i++) {
            of(i, 1);
            separator(i);
        }
        for (int what = 0; what < 6; what++) {
            count(what);
        }
    }

    private void due(String call, int got, int want) {
        calls++;
        check.due(run + call, got, want);
    }

    private void node(int weight) {
        due("node(" + weight + ")", real.node(weight), oracle.node(weight));
    }

    private void arc(int a, int b, int weight) {
        due("arc(" + a + ", " + b + ", " + weight + ")",
                real.arc(a, b, weight), oracle.arc(a, b, weight));
    }

    private void parts(int k) {
        due("parts(" + k + ")", real.parts(k), oracle.parts(k));
    }

    private void bound(int part, int least, int most) {
        due("bound(" + part + ", " + least + ", " + most + ")",
                real.bound(part, least, most), oracle.bound(part, least, most));
    }

    private void put(int node, int part) {
        due("put(" + node + ", " + part + ")", real.put(node, part), oracle.put(node, part));
    }

    private void of(int node, int what) {
        due("of(" + node + ", " + what + ")", real.of(node, what), oracle.of(node, what));
    }

    private void between(int a, int b) {
        due("between(" + a + ", " + b + ")", real.between(a, b), oracle.between(a, b));
    }

    private void part(int part, int what) {
        due("part(" + part + ", " + what + ")", real.part(part, what), oracle.part(part, what));
    }

    private void gain(int node, int part) {
        due("gain(" + node + ", " + part + ")", real.gain(node, part), oracle.gain(node, part));
    }

    private void level(int l, int what) {
        due("level(" + l + ", " + what + ")", real.level(l, what), oracle.level(l, what));
    }

    private void inLevel(int l, int node) {
        due("inLevel(" + l + ", " + node + ")", real.inLevel(l, node), oracle.inLevel(l, node));
    }

    private void levelOf(int l, int node, int what) {
        due("levelOf(" + l + ", " + node + ", " + what + ")",
                real.levelOf(l, node, what), oracle.levelOf(l, node, what));
    }

    private void stream(int seed, int alpha) {
        due("stream(" + seed + ", " + alpha + ")",
                real.stream(seed, alpha), oracle.stream(seed, alpha));
    }

    private void order(int seed, int i) {
        due("order(" + seed + ", " + i + ")", real.order(seed, i), oracle.order(seed, i));
    }

    private void exact() {
        // The oracle tries every split at full length, so only some of the larger ones are asked.
        boolean small = Math.pow(oracle.count(1), oracle.count(0)) <= 5000;
        boolean turns = Math.pow(oracle.count(1), oracle.count(0)) > 60000;
        if (small || turns || dice.nextInt(4) == 0) {
            due("exact()", real.exact(), oracle.exact());
        }
    }

    private void separator(int i) {
        due("separator(" + i + ")", real.separator(i), oracle.separator(i));
    }

    private void count(int what) {
        due("count(" + what + ")", real.count(what), oracle.count(what));
    }
}
