import java.util.Arrays;

/** Graphs that tests begin with. */
abstract class Builders {
    static final int BAD = -1, NONE = -2, FULL = -3, TURN = -4;
    static final int BAD_GAIN = -100000000;
    static final int LOW = Integer.MIN_VALUE, HIGH = Integer.MAX_VALUE;

    static BalancedSplits withNodes(int... weights) {
        BalancedSplits x = new BalancedSplits();
        for (int w : weights) {
            x.node(w);
        }
        return x;
    }

    static BalancedSplits ones(int nodes) {
        int[] weights = new int[nodes];
        Arrays.fill(weights, 1);
        return withNodes(weights);
    }

    static BalancedSplits ringOfOnes(int nodes) {
        BalancedSplits x = ones(nodes);
        for (int i = 0; i < nodes; i++) {
            x.arc(i, (i + 1) % nodes, 1);
        }
        return x;
    }

    /** Arcs as rows of three: both ends and the weight. */
    static BalancedSplits arcs(BalancedSplits x, int... rows) {
        for (int i = 0; i < rows.length; i += 3) {
            x.arc(rows[i], rows[i + 1], rows[i + 2]);
        }
        return x;
    }

    static BalancedSplits putAll(BalancedSplits x, int... parts) {
        for (int i = 0; i < parts.length; i++) {
            x.put(i, parts[i]);
        }
        return x;
    }

    /** The same least and most for every part. */
    static BalancedSplits boundAll(BalancedSplits x, int least, int most) {
        int k = x.count(1);
        for (int p = 0; p < k; p++) {
            x.bound(p, least, most);
        }
        return x;
    }
}
