/** What promises 1 to 16 and parts 1 and 2 of the terms say of ordinary cases. */
final class PlainGraphSentences extends Looks {
    static void addTo(Sentences all) {
        addTold(all);
        addChanged(all);
        addTellings(all);
        addLevels(all);
    }

    private static void addTold(Sentences all) {
        all.add("0.2", "\"all counted anew from the arcs\"", PlainGraphSentences::countedAnew);
        all.add("1.10", "\"A new object\", \"No NODES\": though another one has some", PlainGraphSentences::ownState);
        all.add("2.10", "\"A NODE more\": of the WEIGHT told, and nothing else changes", PlainGraphSentences::nodeMore);
        all.add("3.12", "\"An ARC of a WEIGHT\": between these two alone, and nothing else changes",
                PlainGraphSentences::arcOfTwo);
    }

    private static void countedAnew() {
        BalancedSplits x = putAll(ones(3), 0, 1, 0);
        dueCounted(x, 0, 0, 0, 0);
        x.arc(0, 1, 5);
        dueCounted(x, 5, 5, 2, 1);
        x.arc(1, 2, 7);
        dueCounted(x, 12, 12, 3, 1);
        due(x.separator(0), 1);
        x.put(1, 0);
        dueCounted(x, 0, 0, 0, 0);
    }

    /** The cut, the gain of node 1 for part 0, the sum of volumes, how many are in the separator. */
    private static void dueCounted(BalancedSplits x, int cut, int gain, int volumes, int separators) {
        due(x.cut(), cut);
        due(x.gain(1, 0), gain);
        due(x.count(5), volumes);
        due(x.count(4), separators);
    }

    private static void ownState() {
        BalancedSplits x = sample();
        BalancedSplits y = new BalancedSplits();
        due(y.count(0), 0);
        due(y.count(1), 2);
        due(y.node(9), 0);
        due(y.put(0, 1), 0);
        y.bound(0, 1, 1);
        dueSampleGraph(x);
        dueSampleBounds(x);
        dueParts(x, 1, 2, 0, 1, 2, 0, 1, 2);
    }

    private static void nodeMore() {
        BalancedSplits x = sample();
        due(x.node(9), 8);
        dueParts(x, 1, 2, 0, 1, 2, 0, 1, 2, 0);
        due(x.part(0, 0), 9 + 9);
        due(x.of(8, 3), 0);
        for (int i = 0; i < 9; i++) {
            due(x.of(i, 0), i + 1);
            due(x.between(8, i), 0);
        }
        due(x.count(2), 6);
        dueSampleBounds(x);
    }

    private static void arcOfTwo() {
        BalancedSplits x = sample();
        due(x.arc(2, 6, 11), 11);
        due(x.between(2, 6), 11);
        due(x.between(6, 2), 11);
        due(x.count(2), 7);
        int[] neighbours = {2, 2, 2, 1, 1, 2, 2, 2};
        for (int i = 0; i < 8; i++) {
            due(x.of(i, 0), i + 1);
            due(x.of(i, 3), neighbours[i]);
        }
        due(x.between(0, 1), 2);
        due(x.level(0, 2), 17 + 11);
        dueParts(x, 1, 2, 0, 1, 2, 0, 1, 2);
        dueSampleBounds(x);
    }

    private static void addChanged(Sentences all) {
        all.add("4.10", "\"all NODES are in PART 0\": they stay, and so do the ARCS",
                PlainGraphSentences::partsKeepGraph);
        all.add("5.9", "\"BOUNDS of a PART\": told again, the later ones hold", PlainGraphSentences::laterBounds);
        all.add("5.10", "\"BOUNDS of a PART\": nothing else changes", PlainGraphSentences::boundsAlone);
        all.add("6.6", "\"A NODE comes to a PART\": it is there then, and no other moves", PlainGraphSentences::putOne);
        all.add("7.9", "\"(As a new object.)\": what is built behind it answers as on a new one",
                PlainGraphSentences::builtAgain);
    }

    private static void partsKeepGraph() {
        BalancedSplits x = sample();
        due(x.parts(4), 3);
        dueSampleGraph(x);
        dueParts(x, 0, 0, 0, 0, 0, 0, 0, 0);
        due(x.part(0, 0), 36);
        due(x.cut(), 0);
        due(x.over(), 0);
    }

    private static void laterBounds() {
        BalancedSplits x = new BalancedSplits();
        x.bound(0, 5, 6);
        due(x.bound(0, 2, 9), 0);
        due(x.part(0, 2), 2);
        due(x.part(0, 3), 9);
        due(x.bound(0, 3, 4), 0);
        due(x.part(0, 2), 3);
        due(x.part(0, 3), 4);
    }

    private static void boundsAlone() {
        BalancedSplits x = sample();
        due(x.bound(1, 6, 7), 0);
        dueSampleGraph(x);
        dueParts(x, 1, 2, 0, 1, 2, 0, 1, 2);
        due(x.over(), 12 - 7);
        due(x.bound(1, 4, 20), 0);
        dueSampleBounds(x);
    }

    private static void putOne() {
        BalancedSplits x = sample();
        due(x.put(3, 0), 1);
        dueParts(x, 1, 2, 0, 0, 2, 0, 1, 2);
        due(x.part(0, 1), 3);
        due(x.part(0, 0), 3 + 4 + 6);
        due(x.part(1, 1), 2);
        due(x.part(1, 0), 1 + 7);
        dueSampleGraph(x);
        dueSampleBounds(x);
    }

    private static void builtAgain() {
        BalancedSplits x = sample();
        x.run();
        x.separator(0);
        due(x.clear(), 8);
        for (int i = 0; i < 8; i++) {
            due(x.node(1), i);
        }
        for (int i = 0; i < 8; i++) {
            due(x.arc(i, (i + 1) % 8, 1), 1);
        }
        boundAll(x, 4, 4);
        due(x.run(), 2);
        dueParts(x, 0, 0, 0, 0, 1, 1, 1, 1);
        due(x.count(4), 2);
    }

    private static void addTellings(Sentences all) {
        all.add("8.14", "\"WEIGHT of a NODE .., its PART .., VOLUME .., how many neighbours\": of each NODE",
                PlainGraphSentences::ofEach);
        all.add("8.15", "\"of\", and \"between\", \"part\", \"inLevel\", \"count\": telling changes nothing",
                PlainGraphSentences::tellingChangesNothing);
        all.add("9.5", "\"The WEIGHT of the ARC between two NODES\": of each pair", PlainGraphSentences::betweenEach);
        all.add("10.7", "\"The sum of WEIGHTS .., how many NODES .., least .., most\": of each PART",
                PlainGraphSentences::partEach);
        all.add("11.5", "\"CUT: the sum of ARCS\": of their WEIGHTS, of three PARTS", PlainGraphSentences::cutOfSample);
        all.add("12.6", "\"the sum of its NODES' WEIGHTS\": above most in one PART, below least in another",
                PlainGraphSentences::overOfSample);
        all.add("13.7", "\"by how much CUT would be less, if it were there\": of each NODE and PART",
                PlainGraphSentences::gainOfEach);
    }

    private static void ofEach() {
        BalancedSplits x = sample();
        int[] parts = {1, 2, 0, 1, 2, 0, 1, 2};
        int[] volumes = {1, 1, 0, 1, 1, 1, 1, 2};
        int[] neighbours = {2, 2, 1, 1, 1, 2, 1, 2};
        for (int i = 0; i < 8; i++) {
            due(x.of(i, 0), i + 1);
            due(x.of(i, 1), parts[i]);
            due(x.of(i, 2), volumes[i]);
            due(x.of(i, 3), neighbours[i]);
        }
    }

    private static void tellingChangesNothing() {
        BalancedSplits x = sample();
        for (int i = 0; i < 8; i++) {
            x.of(i, i % 4);
            x.between(i, 0);
            x.inLevel(i % 2, i);
        }
        for (int what = 0; what <= 5; what++) {
            x.part(what % 3, what % 4);
            x.count(what);
        }
        dueParts(x, 1, 2, 0, 1, 2, 0, 1, 2);
        dueSame(x, seen(sample()));
    }

    private static void betweenEach() {
        dueSampleGraph(sample());
    }

    private static void partEach() {
        BalancedSplits x = sample();
        int[] sums = {3 + 6, 1 + 4 + 7, 2 + 5 + 8};
        int[] nodes = {2, 3, 3};
        for (int p = 0; p < 3; p++) {
            due(x.part(p, 0), sums[p]);
            due(x.part(p, 1), nodes[p]);
        }
        dueSampleBounds(x);
    }

    private static void cutOfSample() {
        // All but that between 2 and 5, which are both in part 0.
        due(sample().cut(), 5 + 4 + 2 + 2 + 1);
    }

    private static void overOfSample() {
        BalancedSplits x = sample();
        due(x.over(), 0);
        x.put(7, 0);
        due(x.over(), 3 + 6 + 8 - 9);
        x.put(4, 1);
        due(x.over(), 8 + 5 - 2);
    }

    private static void gainOfEach() {
        BalancedSplits x = sample();
        for (int i = 0; i < 8; i++) {
            for (int p = 0; p < 3; p++) {
                int gain = x.gain(i, p);
                int cut = x.cut();
                int home = x.put(i, p);
                due(gain, cut - x.cut());
                x.put(i, home);
            }
        }
        due(x.gain(0, 2), 5 + 2);
        due(x.gain(2, 1), -3);
    }

    private static void addLevels(Sentences all) {
        all.add("14.8", "\"how many NODES .., ARCS .., the sum of these\": of each of three LEVELS",
                PlainGraphSentences::threeLevels);
        all.add("15.6", "\"The NODE of LEVEL l in which a NODE of THE GRAPH is\": of each of three LEVELS",
                PlainGraphSentences::inEachLevel);
        all.add("16.9", "\"the WEIGHT of its ARC to NODE what there\": in each of three LEVELS",
                PlainGraphSentences::arcsOfLevels);
        all.add("T2.27", "\"its neighbours, not joined yet\": one that has joined another is not taken",
                PlainGraphSentences::joinerIsJoined);
        all.add("T2.28", "\"of like ones the one of less WEIGHT\": of the lightest ARCS too",
                PlainGraphSentences::likeLightArcs);
    }

    private static void threeLevels() {
        BalancedSplits x = ladder();
        int[][] told = {{16, 15, 8 * 9 + 4 * 1 + 3 * 2}, {8, 7, 4 * 1 + 3 * 2}, {4, 3, 3 * 2}};
        for (int l = 0; l < 3; l++) {
            for (int what = 0; what < 3; what++) {
                due(x.level(l, what), told[l][what]);
            }
        }
        due(x.level(3, 0), NONE);
    }

    private static void inEachLevel() {
        BalancedSplits x = ladder();
        for (int i = 0; i < 16; i++) {
            due(x.inLevel(0, i), i);
            due(x.inLevel(1, i), i / 2);
            due(x.inLevel(2, i), i / 4);
        }
    }

    private static void arcsOfLevels() {
        BalancedSplits x = ladder();
        due(x.levelOf(0, 4, 5), 9);
        due(x.levelOf(0, 2, 1), 1);
        due(x.levelOf(1, 0, 1), 1);
        due(x.levelOf(1, 2, 1), 2);
        due(x.levelOf(1, 7, 6), 1);
        due(x.levelOf(2, 0, 1), 2);
        due(x.levelOf(2, 3, 2), 2);
        due(x.levelOf(0, 15, -1), 1);
        due(x.levelOf(1, 7, -1), 2);
        due(x.levelOf(2, 3, -1), 4);
    }

    private static void joinerIsJoined() {
        // LIMIT is 8 / 4 = 2. 0 joins 1, so 2 takes 3 by its lighter arc, and 4 has no neighbour left.
        BalancedSplits x = arcs(ones(8), 0, 1, 9, 0, 2, 5, 2, 3, 1, 3, 4, 1);
        int[] in = {0, 0, 1, 1, 2, 3, 4, 5};
        for (int i = 0; i < 8; i++) {
            due(x.inLevel(1, i), in[i]);
        }
    }

    private static void likeLightArcs() {
        // LIMIT is 26 / 4 = 6.
        BalancedSplits x = arcs(withNodes(1, 3, 2, 5, 5, 5, 5), 0, 1, 1, 0, 2, 1);
        due(x.inLevel(1, 2), 0);
        due(x.inLevel(1, 1), 1);
    }
}
