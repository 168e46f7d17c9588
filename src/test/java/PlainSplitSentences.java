/** What promises 17 to 24 and parts 1, 3 and 4 of the terms say of ordinary cases. */
final class PlainSplitSentences extends Looks {
    static void addTo(Sentences all) {
        addRun(all);
        addRunBounds(all);
        addMoves(all);
        addRefine(all);
        addGrowAndStream(all);
        addExact(all);
        addSeparator(all);
        addCount(all);
    }

    private static void addRun(Sentences all) {
        all.add("T1.1", "\"A SPLIT gives each NODE a PART\": whichever call has made it",
                PlainSplitSentences::eachHasPart);
        all.add("17.7", "\"RUN: CUT\": of the SPLIT that is there then", PlainSplitSentences::runLeavesSplit);
        all.add("17.8", "\"RUN\": nothing but the SPLIT changes", PlainSplitSentences::runChangesSplitAlone);
        all.add("T3.35", "\"each NODE has the PART of the one that it is in below\": through three LEVELS",
                PlainSplitSentences::downToEach);
    }

    private static void dueEachInPart(BalancedSplits x) {
        int nodes = 0;
        for (int p = 0; p < 3; p++) {
            nodes += x.part(p, 1);
        }
        due(nodes, 8);
        for (int i = 0; i < 8; i++) {
            due(x.of(i, 1) >= 0 && x.of(i, 1) < 3 ? 1 : 0, 1);
        }
    }

    private static void eachHasPart() {
        BalancedSplits x = sample();
        dueEachInPart(x);
        x.grow();
        dueEachInPart(x);
        x.refine();
        dueEachInPart(x);
        x.stream(5, 100);
        dueEachInPart(x);
        x.run();
        dueEachInPart(x);
        x.exact();
        dueEachInPart(x);
    }

    private static void runLeavesSplit() {
        // LIMIT is 36 / 6 = 6: 0 4 and 1 3 are joined. No part may be empty, so that of 1 at least is cut.
        BalancedSplits x = sample();
        due(x.run(), 1);
        due(x.cut(), 1);
        due(x.over(), 0);
        dueParts(x, 1, 1, 0, 1, 1, 0, 2, 2);
    }

    private static void runChangesSplitAlone() {
        BalancedSplits x = sample();
        x.run();
        dueSampleGraph(x);
        dueSampleBounds(x);
        due(x.count(3), 2);
    }

    private static void downToEach() {
        // Four fours: the first two and the last two, and no move keeps within such bounds.
        BalancedSplits x = ladder();
        boundAll(x, 8, 8);
        due(x.run(), 2);
        dueParts(x, 0, 0, 0, 0, 0, 0, 0, 0, 1, 1, 1, 1, 1, 1, 1, 1);
    }

    private static void addRunBounds(Sentences all) {
        all.add("17.9", "\"below least\": RUN looks at the least of each PART", PlainSplitSentences::runSeesLeast);
        all.add("17.10", "\"above most\": RUN looks at the most of each PART", PlainSplitSentences::runSeesMost);
        all.add("17.11", "\"(2 K)\": RUN is on the LEVELS of the K that holds now", PlainSplitSentences::runSeesParts);
        all.add("17.12", "\"of all SPLITS\": a RUN behind one that did FIT", PlainSplitSentences::runAgain);
    }

    private static void runSeesLeast() {
        BalancedSplits x = ones(3);
        x.parts(4);
        x.bound(3, 2, 1000000);
        due(x.run(), 0);
        dueParts(x, 0, 3, 3);
    }

    private static void runSeesMost() {
        BalancedSplits x = arcs(ones(2), 0, 1, 5);
        x.parts(4);
        boundAll(x, 0, 1);
        due(x.run(), 5);
        dueParts(x, 0, 1);
    }

    private static void runSeesParts() {
        // LIMIT is 8 / 6 = 1, so the eight are grown: room 3 3 2, then 2 3 2, 2 2 2, 1 2 2, 1 1 2, 1 1 1.
        BalancedSplits x = ringOfOnes(8);
        x.parts(3);
        x.bound(0, 3, 3);
        x.bound(1, 3, 3);
        x.bound(2, 2, 2);
        due(x.run(), 8);
        dueParts(x, 0, 1, 0, 1, 2, 0, 1, 2);
    }

    private static void runAgain() {
        BalancedSplits x = ones(2);
        boundAll(x, 1, 1);
        due(x.run(), 0);
        dueParts(x, 0, 1);
        boundAll(x, 0, 0);
        due(x.run(), -12);
        dueParts(x, 0, 0);
    }

    private static void addMoves(Sentences all) {
        all.add("T3.36", "\"all NODES are free\": the last of forty too", PlainSplitSentences::lastIsFree);
        all.add("T3.37", "\"Then it goes back\": the last of forty too", PlainSplitSentences::lastGoesBack);
        all.add("T3.38", "\"on and on, till there is none\": till each NODE has moved", PlainSplitSentences::eachMoves);
    }

    private static void lastIsFree() {
        // 38 may not follow 39 into part 1, which takes one alone.
        BalancedSplits x = arcs(ones(40), 38, 39, 5);
        x.bound(1, 0, 1);
        x.put(39, 1);
        due(x.refine(), 1);
        due(x.cut(), 0);
        due(x.of(39, 1), 0);
    }

    private static void lastGoesBack() {
        // All go to part 1, 39 as the last one, which is no better than the beginning.
        BalancedSplits x = arcs(ones(40), 38, 39, 5);
        due(x.refine(), 0);
        due(x.of(39, 1), 0);
        due(x.part(0, 1), 40);
    }

    private static void eachMoves() {
        BalancedSplits x = ones(1);
        x.bound(0, 0, 0);
        due(x.refine(), 1);
        dueParts(x, 1);
        BalancedSplits y = ones(3);
        y.bound(0, 0, 0);
        due(y.refine(), 1);
        dueParts(y, 1, 1, 1);
    }

    private static void addRefine(Sentences all) {
        all.add("18.3", "\"on THE GRAPH alone\": though there are LEVELS", PlainSplitSentences::refineOnGraph);
        all.add("18.4", "\"how many PASSES made it better\": two", PlainSplitSentences::twoPasses);
        all.add("18.5", "\"MOVES of the SPLIT as it is\": nothing but the SPLIT changes",
                PlainSplitSentences::refineChangesSplitAlone);
    }

    private static void refineOnGraph() {
        // 6 and 7 are joined in level 1, but apart in the split, and no one node may move.
        BalancedSplits x = putAll(arcs(ones(8), 6, 7, 5), 0, 0, 0, 1, 1, 1, 0, 1);
        boundAll(x, 4, 4);
        due(x.level(1, 0), 7);
        due(x.refine(), 0);
        due(x.cut(), 5);
        dueParts(x, 0, 0, 0, 1, 1, 1, 0, 1);
    }

    private static void twoPasses() {
        // Each part has two at least. First 2 goes (gain 1), and then 0, 1, 3 (0 each) and 4 (-1): 2 is not
        // free for its gain. Behind 2 it was best; from there 0, 1 (0 each) and 2 (1) go. A third finds none.
        BalancedSplits x = putAll(arcs(ones(5), 0, 2, 1, 0, 4, 1), 1, 0, 0, 1, 0);
        boundAll(x, 2, 5);
        due(x.cut(), 2);
        due(x.refine(), 2);
        due(x.cut(), 0);
        dueParts(x, 0, 1, 0, 1, 0);
    }

    private static void refineChangesSplitAlone() {
        // 0 to 2 (gain 7), 3 to 2 (4), 7 to 1 (2), as 6 may not leave part 1 empty; then none is better.
        BalancedSplits x = sample();
        due(x.refine(), 1);
        dueParts(x, 2, 2, 0, 2, 2, 0, 1, 1);
        due(x.cut(), 1);
        dueSampleGraph(x);
        dueSampleBounds(x);
    }

    private static void addGrowAndStream(Sentences all) {
        all.add("19.5", "\"GROWING .. CUT\": of the SPLIT that is there then, and nothing else changes",
                PlainSplitSentences::growSample);
        all.add("20.6", "\"STREAM in the ORDER of a seed\": of forty NODES by turns", PlainSplitSentences::streamForty);
        all.add("20.7", "\"STREAM .. CUT\": of the SPLIT that is there then, and nothing else changes",
                PlainSplitSentences::streamSample);
        all.add("21.6", "\"the ORDER of a seed\": the same one whatever was asked before",
                PlainSplitSentences::sameOrder);
    }

    private static void growSample() {
        // Room 9 20 30: 7 (8) 2, 6 (7) 2, 5 (6) 1, 4 (5) 2, 3 (4) 1, 2 (3) 1 of 9 10 10, 1 (2) 2, 0 (1) 0.
        BalancedSplits x = sample();
        due(x.grow(), 5 + 4 + 2 + 1);
        dueParts(x, 0, 2, 1, 1, 2, 1, 2, 2);
        due(x.cut(), 12);
        dueSampleGraph(x);
        dueSampleBounds(x);
    }

    private static void streamForty() {
        BalancedSplits x = ones(40);
        x.stream(7, 1000);
        for (int i = 0; i < 40; i++) {
            due(x.of(x.order(7, i), 1), i % 2);
        }
    }

    private static void streamSample() {
        // The order is 3 2 5 4 6 1 7 0. 3: 0 0 0. 2: -400 0 0. 5: no room, 2700 0. 4: -400 -900 0.
        // 6: no room, -900 -500. 1: 3600 -900 -1200. 7: no room, 100 800. 0: 1400 -900 3000.
        BalancedSplits x = sample();
        due(x.stream(3, 100), 2 + 1);
        dueParts(x, 2, 0, 1, 0, 2, 1, 2, 2);
        due(x.cut(), 3);
        dueSampleGraph(x);
        dueSampleBounds(x);
        // With 500, 7 has -3500 for 1 and -4000 for 2, and 0 has -1000 for 0 and for 2.
        due(x.stream(3, 500), 5 + 2);
        dueParts(x, 0, 0, 1, 0, 2, 1, 2, 1);
    }

    private static void sameOrder() {
        BalancedSplits x = ones(10);
        int[] ofSeven = {4, 6, 5, 1, 9, 0, 7, 8, 3, 2};
        for (int i = 9; i >= 0; i--) {
            due(x.order(7, i), ofSeven[i]);
            x.order(i, 0);
            x.stream(i, 1000);
        }
    }

    private static void addExact(Sentences all) {
        all.add("22.15", "\"The SPLIT\": it is there then, and nothing else changes", PlainSplitSentences::exactSample);
        all.add("22.16", "\"of all\": one that RUN does not find", PlainSplitSentences::exactBeyondRun);
    }

    private static void exactSample() {
        // No part may be empty, so 1 at least is cut: that between 5 and 7, and part 0 takes 2 and 5 alone.
        BalancedSplits x = sample();
        due(x.exact(), 1);
        dueParts(x, 1, 1, 0, 1, 1, 0, 2, 2);
        due(x.cut(), 1);
        dueSampleGraph(x);
        dueSampleBounds(x);
    }

    private static void exactBeyondRun() {
        // Seven are grown, and no move keeps within such bounds (T3.2).
        BalancedSplits x = arcs(ones(7), 0, 2, 1, 0, 4, 2, 0, 6, 4, 1, 3, 9, 3, 5, 9);
        x.bound(0, 4, 4);
        x.bound(1, 3, 3);
        due(x.run(), 7);
        due(x.exact(), 0);
        dueParts(x, 0, 1, 0, 1, 0, 1, 0);
    }

    private static void addSeparator(Sentences all) {
        all.add("23.5", "\"SEPARATOR of a SPLIT\": of the one that is there now", PlainSplitSentences::separatorOfNow);
        all.add("T4.25", "\"by falling number, each goes out again\": the last of forty too",
                PlainSplitSentences::lastGoesOut);
        all.add("T4.26", "\"while some ARC .. has neither end in it\": then no more come",
                PlainSplitSentences::noMoreCome);
    }

    private static void separatorOfNow() {
        BalancedSplits x = putAll(arcs(withNodes(5, 1, 5), 0, 1, 1, 0, 2, 1), 0, 1, 1);
        due(x.separator(0), 0);
        due(x.separator(1), NONE);
        // The one arc left is that to 1, which is lighter.
        x.put(2, 0);
        due(x.separator(0), 1);
        due(x.separator(1), NONE);
    }

    private static void lastGoesOut() {
        // 39 ends three arcs and comes first; 36, 37 and 38 come for their arcs to the heavy ones.
        BalancedSplits x = ones(33);
        for (int i = 33; i < 40; i++) {
            x.node(i < 36 ? 9 : 1);
        }
        arcs(x, 39, 36, 1, 39, 37, 1, 39, 38, 1, 36, 33, 1, 37, 34, 1, 38, 35, 1);
        for (int i = 36; i < 39; i++) {
            x.put(i, 1);
        }
        due(x.count(4), 3);
        due(x.separator(0), 36);
        due(x.separator(2), 38);
        due(x.separator(3), NONE);
        due(x.separator(40), NONE);
    }

    private static void noMoreCome() {
        // 5 ends three and comes first, then 1 and 2. Were 0, the lightest, to come too, 5 could go.
        BalancedSplits x = arcs(withNodes(1, 2, 2, 9, 9, 3), 5, 0, 1, 5, 1, 1, 5, 2, 1, 1, 3, 1, 2, 4, 1);
        putAll(x, 1, 1, 1, 0, 0, 0);
        due(x.count(4), 3);
        due(x.separator(0), 1);
        due(x.separator(1), 2);
        due(x.separator(2), 5);
    }

    private static void addCount(Sentences all) {
        all.add("24.9", "\"How many NODES, K, ARCS, LEVELS, NODES in the SEPARATOR, the sum of VOLUMES\"",
                PlainSplitSentences::countSample);
        all.add("24.10", "\"ARCS, NODES in the SEPARATOR, the sum of VOLUMES\": of forty NODES",
                PlainSplitSentences::countForty);
    }

    private static void countSample() {
        // In the separator are 0 (of three that end two the lightest), then 7 (two), then 1.
        BalancedSplits x = sample();
        int[] told = {8, 3, 6, 2, 3, 8};
        for (int what = 0; what < 6; what++) {
            due(x.count(what), told[what]);
        }
        due(x.separator(0), 0);
        due(x.separator(1), 1);
        due(x.separator(2), 7);
    }

    private static void countForty() {
        BalancedSplits x = ringOfOnes(40);
        for (int i = 1; i < 40; i += 2) {
            x.put(i, 1);
        }
        due(x.count(2), 40);
        due(x.level(0, 1), 40);
        due(x.level(0, 2), 40);
        due(x.cut(), 40);
        due(x.count(5), 40);
        due(x.count(4), 20);
        for (int i = 0; i < 20; i++) {
            due(x.separator(i), 2 * i);
        }
        due(x.separator(20), NONE);
    }
}
