import java.util.ArrayList;
import java.util.List;

/** What the tests of single sentences look with: the first answer that is not due ends the test. */
abstract class Looks extends Builders {
    static void due(int got, int want) {
        if (got != want) {
            throw new AssertionError("answered " + got + ", due is " + want);
        }
    }

    static void dueParts(BalancedSplits x, int... parts) {
        List<Integer> want = new ArrayList<>();
        List<Integer> got = new ArrayList<>();
        for (int i = 0; i < parts.length; i++) {
            want.add(parts[i]);
            got.add(x.of(i, 1));
        }
        if (!got.equals(want) || x.count(0) != parts.length) {
            throw new AssertionError("parts " + got + ", due are " + want);
        }
    }

    /** Two levels, three parts, bounds and a split that are all unlike those of a new object. */
    static BalancedSplits sample() {
        BalancedSplits x = withNodes(1, 2, 3, 4, 5, 6, 7, 8);
        arcs(x, 0, 4, 5, 1, 3, 4, 2, 5, 3, 0, 1, 2, 6, 7, 2, 5, 7, 1);
        x.parts(3);
        x.bound(0, 3, 9);
        x.bound(1, 4, 20);
        x.bound(2, 5, 30);
        return putAll(x, 1, 2, 0, 1, 2, 0, 1, 2);
    }

    /** The nodes and arcs of sample(), whatever has become of its split. */
    static void dueSampleGraph(BalancedSplits x) {
        int[][] weights = new int[8][8];
        for (int[] arc : new int[][] {{0, 4, 5}, {1, 3, 4}, {2, 5, 3}, {0, 1, 2}, {6, 7, 2}, {5, 7, 1}}) {
            weights[arc[0]][arc[1]] = arc[2];
            weights[arc[1]][arc[0]] = arc[2];
        }
        due(x.count(0), 8);
        due(x.count(2), 6);
        for (int i = 0; i < 8; i++) {
            due(x.of(i, 0), i + 1);
            for (int j = 0; j < 8; j++) {
                due(x.between(i, j), weights[i][j]);
            }
        }
    }

    /** K and the bounds of sample(). */
    static void dueSampleBounds(BalancedSplits x) {
        int[] least = {3, 4, 5};
        int[] most = {9, 20, 30};
        due(x.count(1), 3);
        for (int p = 0; p < 3; p++) {
            due(x.part(p, 2), least[p]);
            due(x.part(p, 3), most[p]);
        }
    }

    /** A path of sixteen with three levels: twos hold by 9, twos to fours by 1, fours to one another by 2. */
    static BalancedSplits ladder() {
        BalancedSplits x = ones(16);
        for (int i = 0; i < 15; i++) {
            x.arc(i, i + 1, i % 2 == 0 ? 9 : i % 4 == 1 ? 1 : 2);
        }
        return x;
    }

    /** All that can be seen of an object without changing it. */
    static List<Integer> seen(BalancedSplits x) {
        List<Integer> all = new ArrayList<>();
        for (int what = 0; what <= 5; what++) {
            all.add(x.count(what));
        }
        int nodes = x.count(0);
        for (int i = 0; i < nodes; i++) {
            all.add(x.of(i, 0));
            all.add(x.of(i, 1));
            all.add(x.inLevel(x.count(3) - 1, i));
            for (int j = 0; j < i; j++) {
                all.add(x.between(i, j));
            }
        }
        for (int p = 0; p < x.count(1); p++) {
            for (int what = 0; what <= 3; what++) {
                all.add(x.part(p, what));
            }
        }
        return all;
    }

    static void dueSame(BalancedSplits x, List<Integer> before) {
        List<Integer> now = seen(x);
        if (!now.equals(before)) {
            throw new AssertionError("changed from " + before + " to " + now);
        }
    }
}
