/** Promises 14 to 16 and part 2 of the terms. */
final class LevelSentences extends Looks {
    static void addTo(Sentences all) {
        addWhichLevels(all);
        addJoining(all);
        addLimit(all);
        addNextLevel(all);
        addChanges(all);
        addLevel(all);
        addInLevel(all);
        addLevelOf(all);
    }

    private static void addWhichLevels(Sentences all) {
        all.add("T2.1", "\"LEVEL 0 is THE GRAPH\"", LevelSentences::levelZero);
        all.add("T2.2", "\"a LEVEL with more than 6 NODES\": of 6 none is made", LevelSentences::sixNodes);
        all.add("T2.3", "\"a LEVEL with more than 6 NODES\": of 7 one is", LevelSentences::sevenNodes);
        all.add("T2.4", "\"more than 6 NODES\": 6 that were joined stay", LevelSentences::sixLeft);
        all.add("T2.5", "\"more than 6 NODES\": 7 that were joined are joined on", LevelSentences::sevenLeft);
        all.add("T2.6", "\"If none is joined, there is no next LEVEL\": without ARCS", LevelSentences::noArcs);
        all.add("T2.7", "\"If none is joined, there is no next LEVEL\": all beyond LIMIT", LevelSentences::allTooHeavy);
    }

    private static void levelZero() {
        BalancedSplits x = sample();
        due(x.level(0, 0), 8);
        for (int i = 0; i < 8; i++) {
            due(x.inLevel(0, i), i);
            due(x.levelOf(0, i, -1), i + 1);
            for (int j = 0; j < 8; j++) {
                due(x.levelOf(0, i, j), x.between(i, j));
            }
        }
    }

    private static void sixNodes() {
        // 1 and 2 would be within LIMIT: 8 / 4 = 2.
        BalancedSplits x = arcs(withNodes(3, 1, 1, 1, 1, 1), 1, 2, 5);
        due(x.count(3), 1);
        due(x.level(1, 0), NONE);
    }

    private static void sevenNodes() {
        BalancedSplits x = arcs(withNodes(2, 1, 1, 1, 1, 1, 1), 1, 2, 5);
        due(x.count(3), 2);
        due(x.level(1, 0), 6);
    }

    private static void sixLeft() {
        // 1 2 and 3 4 could be joined on by 2 3: LIMIT is 107 / 4 = 26.
        BalancedSplits x = arcs(withNodes(100, 1, 1, 1, 1, 1, 1, 1), 1, 2, 5, 3, 4, 5, 2, 3, 1);
        due(x.level(1, 0), 6);
        due(x.levelOf(1, 1, 2), 1);
        due(x.level(2, 0), NONE);
        due(x.count(3), 2);
    }

    private static void sevenLeft() {
        BalancedSplits x = arcs(withNodes(100, 1, 1, 1, 1, 1, 1, 1, 1), 1, 2, 5, 3, 4, 5, 2, 3, 1);
        due(x.level(1, 0), 7);
        due(x.level(2, 0), 6);
        due(x.inLevel(2, 4), 1);
        due(x.count(3), 3);
    }

    private static void noArcs() {
        due(ones(7).count(3), 1);
        due(ones(7).level(1, 0), NONE);
        due(ones(40).level(1, 0), NONE);
    }

    private static void allTooHeavy() {
        // LIMIT is 7 / 4 = 1.
        due(ringOfOnes(7).count(3), 1);
        due(ringOfOnes(7).level(1, 0), NONE);
    }

    private static void addJoining(Sentences all) {
        all.add("T2.8", "\"these are gone through by rising number\"", LevelSentences::rising);
        all.add("T2.9", "\"one that is not joined yet\": a joined one is not gone through", LevelSentences::joinedOne);
        all.add("T2.10", "\"its neighbours, not joined yet\": a joined one is not taken", LevelSentences::joinedMate);
        all.add("T2.11", "\"whose ARC is the heaviest\"", LevelSentences::heaviest);
        all.add("T2.12", "\"of like ones the one of less WEIGHT\"", LevelSentences::lessWeight);
        all.add("T2.13", "\"then of the lesser number\"", LevelSentences::lesserNumber);
        all.add("T2.14", "\"of those with which its WEIGHT does not go beyond LIMIT\": a heavier ARC is passed over",
                LevelSentences::passedOver);
    }

    private static void rising() {
        // 1 hangs on 0 and 2 alike; 0 comes first. LIMIT is 8 / 4 = 2 in this and the next ones.
        BalancedSplits x = arcs(ones(8), 0, 1, 1, 1, 2, 1);
        due(x.inLevel(1, 1), 0);
        due(x.inLevel(1, 2), 1);
    }

    private static void joinedOne() {
        // 1 is joined by 0, so it does not take 2 by its heavier arc.
        BalancedSplits x = arcs(ones(8), 0, 1, 1, 1, 2, 9, 2, 3, 1);
        due(x.inLevel(1, 1), 0);
        due(x.inLevel(1, 2), 1);
        due(x.inLevel(1, 3), 1);
    }

    private static void joinedMate() {
        // 2 is joined by 0, so 1 takes 3; 4 has no neighbour left.
        BalancedSplits x = arcs(ones(8), 0, 2, 1, 1, 2, 9, 1, 3, 1, 3, 4, 5);
        due(x.inLevel(1, 2), 0);
        due(x.inLevel(1, 1), 1);
        due(x.inLevel(1, 3), 1);
        due(x.inLevel(1, 4), 2);
    }

    private static void heaviest() {
        BalancedSplits x = arcs(ones(8), 0, 1, 4, 0, 2, 5, 0, 3, 4);
        due(x.inLevel(1, 2), 0);
        due(x.inLevel(1, 1), 1);
        due(x.inLevel(1, 3), 2);
    }

    private static void lessWeight() {
        // LIMIT is 26 / 4 = 6.
        BalancedSplits x = arcs(withNodes(1, 3, 2, 5, 5, 5, 5), 0, 1, 4, 0, 2, 4);
        due(x.inLevel(1, 2), 0);
        due(x.inLevel(1, 1), 1);
    }

    private static void lesserNumber() {
        BalancedSplits x = arcs(ones(8), 0, 3, 4, 0, 2, 4, 0, 1, 3);
        due(x.inLevel(1, 2), 0);
        due(x.inLevel(1, 3), 2);
    }

    private static void passedOver() {
        // LIMIT is 12 / 4 = 3: 0 and 1 are 5 together, so 0 takes 2, which would else take 3.
        BalancedSplits x = arcs(withNodes(1, 4, 1, 2, 2, 1, 1), 0, 1, 9, 0, 2, 1, 2, 3, 5);
        due(x.inLevel(1, 2), 0);
        due(x.inLevel(1, 1), 1);
        due(x.inLevel(1, 3), 2);
    }

    private static void addLimit(Sentences all) {
        all.add("T2.15", "\"does not go beyond LIMIT\": just at it they are joined", LevelSentences::atLimit);
        all.add("T2.16", "\"does not go beyond LIMIT\": one beyond they are not", LevelSentences::beyondLimit);
        all.add("T2.17", "\"rounded down\"", LevelSentences::roundedDown);
        all.add("T2.18", "\"(2 K)\": LIMIT is less with more PARTS", LevelSentences::limitByParts);
        all.add("T2.19", "\"the sum of all WEIGHTS\": of those without ARCS too, 40000 at most",
                LevelSentences::limitOfAll);
    }

    private static void atLimit() {
        // 12 / 4 = 3.
        due(arcs(withNodes(1, 2, 2, 2, 2, 2, 1), 0, 1, 1).count(3), 2);
    }

    private static void beyondLimit() {
        due(arcs(withNodes(2, 2, 2, 2, 2, 1, 1), 0, 1, 1).count(3), 1);
    }

    private static void roundedDown() {
        // 13 / 4, 14 / 4 and 15 / 4 are 3, 16 / 4 is 4, and the two are 4 together.
        due(arcs(withNodes(2, 2, 3, 2, 2, 1, 1), 0, 1, 1).count(3), 1);
        due(arcs(withNodes(2, 2, 3, 3, 2, 1, 1), 0, 1, 1).count(3), 1);
        due(arcs(withNodes(2, 2, 3, 3, 3, 1, 1), 0, 1, 1).count(3), 1);
        due(arcs(withNodes(2, 2, 3, 3, 3, 2, 1), 0, 1, 1).count(3), 2);
    }

    private static void limitByParts() {
        // 12 / 4 = 3, 12 / 6 = 2, 12 / 8 = 1.
        BalancedSplits x = arcs(ones(12), 0, 1, 2, 1, 2, 1);
        due(x.count(3), 3);
        x.parts(3);
        due(x.count(3), 2);
        x.parts(4);
        due(x.count(3), 1);
        x.parts(2);
        due(x.count(3), 3);
    }

    private static void limitOfAll() {
        BalancedSplits x = new BalancedSplits();
        for (int i = 0; i < 40; i++) {
            x.node(1000);
        }
        for (int i = 0; i < 9; i++) {
            x.arc(i, i + 1, 1);
        }
        // LIMIT is 40000 / 4 = 10000: pairs, fours, an eight, then all ten that hang together.
        int last = x.count(3) - 1;
        due(x.levelOf(last, 0, -1), 10000);
        due(x.level(last, 0), 31);
    }

    private static void addNextLevel(Sentences all) {
        all.add("T2.20", "\"numbered by the least number that they are made of\"", LevelSentences::numbers);
        all.add("T2.21", "\"with the sum of WEIGHTS\"", LevelSentences::joinedWeights);
        all.add("T2.22", "\"ARCS between them likewise\": added up to one", LevelSentences::joinedArcs);
        all.add("T2.23", "\"(none within one)\"", LevelSentences::noneWithin);
    }

    private static void numbers() {
        BalancedSplits x = arcs(ones(8), 0, 5, 1, 1, 4, 1);
        int[] in = {0, 1, 2, 3, 1, 0, 4, 5};
        for (int i = 0; i < 8; i++) {
            due(x.inLevel(1, i), in[i]);
        }
    }

    private static void joinedWeights() {
        // LIMIT is 36 / 4 = 9.
        BalancedSplits x = arcs(withNodes(1, 2, 3, 4, 5, 6, 7, 8), 0, 7, 5, 1, 6, 4);
        int[] weights = {9, 9, 3, 4, 5, 6};
        for (int i = 0; i < 6; i++) {
            due(x.levelOf(1, i, -1), weights[i]);
        }
    }

    private static BalancedSplits twoPairsAndMore() {
        return arcs(ones(8), 0, 1, 9, 2, 3, 9, 0, 2, 1, 0, 3, 2, 1, 2, 3, 1, 3, 4, 3, 7, 6);
    }

    private static void joinedArcs() {
        BalancedSplits x = twoPairsAndMore();
        due(x.levelOf(1, 0, 1), 10);
        due(x.levelOf(1, 1, 0), 10);
        due(x.levelOf(1, 1, 5), 6);
        due(x.level(1, 1), 2);
        due(x.level(1, 2), 16);
    }

    private static void noneWithin() {
        BalancedSplits x = twoPairsAndMore();
        due(x.levelOf(1, 0, 0), 0);
        due(x.levelOf(1, 1, 1), 0);
        due(x.level(0, 1), 7);
        due(x.level(1, 1), 2);
    }

    private static void addChanges(Sentences all) {
        all.add("T2.24", "\"LEVEL 0 is THE GRAPH\": a NODE more changes the LEVELS", LevelSentences::nodeMore);
        all.add("T2.25", "\"LEVEL 0 is THE GRAPH\": an ARC more changes the LEVELS", LevelSentences::arcMore);
        all.add("T2.26", "\"LIMIT\": neither BOUNDS nor the SPLIT change the LEVELS", LevelSentences::levelsStay);
    }

    private static void nodeMore() {
        BalancedSplits x = ringOfOnes(7);
        due(x.count(3), 1);
        x.node(1);
        // LIMIT is 8 / 4 = 2 now: 0 1, 2 3, 4 5.
        due(x.count(3), 2);
        due(x.level(1, 0), 5);
        due(x.level(0, 0), 8);
    }

    private static void arcMore() {
        BalancedSplits x = ones(8);
        due(x.count(3), 1);
        x.arc(6, 7, 1);
        due(x.level(1, 0), 7);
        x.arc(0, 7, 1);
        due(x.inLevel(1, 7), 0);
    }

    private static void levelsStay() {
        BalancedSplits x = ringOfOnes(12);
        due(x.level(1, 0), 6);
        boundAll(x, 0, 0);
        putAll(x, 1, 0, 1, 0, 1, 0);
        due(x.level(1, 0), 6);
        due(x.inLevel(1, 1), 0);
        due(x.inLevel(1, 11), 5);
    }

    private static void addLevel(Sentences all) {
        all.add("14.1", "\"LEVEL l (0 the first)\": NODES, ARCS, the sum of these", LevelSentences::firstLevel);
        all.add("14.2", "\"of none such NONE\": the last is there, none behind it", LevelSentences::lastLevel);
        all.add("14.3", "\"BAD\", \"l below 0\"", LevelSentences::levelBelow);
        all.add("14.4", "\"BAD\", \"what\": below 0", LevelSentences::levelWhatBelow);
        all.add("14.5", "\"BAD\", \"what\": above 2", LevelSentences::levelWhatAbove);
        all.add("14.6", "\"BAD (looked at first)\": of no such LEVEL too", LevelSentences::badLookedAtFirst);
        all.add("14.7", "\"how many NODES\": forty, and six behind thirty-four joins", LevelSentences::mostLevels);
    }

    private static void firstLevel() {
        BalancedSplits x = sample();
        due(x.level(0, 0), 8);
        due(x.level(0, 1), 6);
        due(x.level(0, 2), 17);
    }

    private static void lastLevel() {
        // LIMIT is 36 / 6 = 6: 0 4, 1 3 are joined, and six are left; 0 1 holds on.
        BalancedSplits x = sample();
        due(x.level(1, 0), 6);
        due(x.level(1, 1), 4);
        due(x.level(1, 2), 8);
        for (int what = 0; what <= 2; what++) {
            due(x.level(2, what), NONE);
            due(x.level(39, what), NONE);
            due(x.level(40, what), NONE);
            due(x.level(HIGH, what), NONE);
            due(oneLevelOfThree().level(1, what), NONE);
        }
    }

    /** An object that had three levels before it had more parts. */
    private static BalancedSplits oneLevelOfThree() {
        BalancedSplits x = arcs(ones(12), 0, 1, 2, 1, 2, 1);
        due(x.count(3), 3);
        x.parts(4);
        return x;
    }

    private static void levelBelow() {
        BalancedSplits x = sample();
        due(x.level(-1, 0), BAD);
        due(x.level(LOW, 2), BAD);
    }

    private static void levelWhatBelow() {
        BalancedSplits x = sample();
        due(x.level(0, -1), BAD);
        due(x.level(1, LOW), BAD);
    }

    private static void levelWhatAbove() {
        BalancedSplits x = sample();
        due(x.level(0, 3), BAD);
        due(x.level(1, HIGH), BAD);
    }

    private static void badLookedAtFirst() {
        BalancedSplits x = sample();
        due(x.level(2, 3), BAD);
        due(x.level(2, -1), BAD);
        due(x.level(HIGH, HIGH), BAD);
        due(x.level(-1, 3), BAD);
    }

    private static void mostLevels() {
        BalancedSplits x = withNodes(1);
        for (int i = 1; i < 40; i++) {
            x.node(i == 39 ? 1000 : 1);
            x.arc(0, i, 1);
        }
        // All hang on 0 alone, so each level joins one more with it; 39 is too heavy.
        due(x.count(3), 35);
        for (int l = 0; l < 35; l++) {
            due(x.level(l, 0), 40 - l);
            due(x.levelOf(l, 0, -1), l + 1);
        }
        due(x.level(35, 0), NONE);
    }

    private static void addInLevel(Sentences all) {
        all.add("15.1", "\"The NODE of LEVEL l\": itself in LEVEL 0", LevelSentences::inLevelZero);
        all.add("15.2", "\"a NODE of THE GRAPH\": also one of a number that LEVEL l has not",
                LevelSentences::inLastLevel);
        all.add("15.3", "\"BAD (also no such LEVEL)\": below 0", LevelSentences::inLevelBelow);
        all.add("15.4", "\"BAD (also no such LEVEL)\": behind the last", LevelSentences::inLevelBehind);
        all.add("15.5", "\"BAD\": no such NODE", LevelSentences::inLevelOfNoNode);
    }

    private static void inLevelZero() {
        BalancedSplits x = ringOfOnes(40);
        for (int i = 0; i < 40; i++) {
            due(x.inLevel(0, i), i);
        }
    }

    private static void inLastLevel() {
        BalancedSplits x = sample();
        due(x.inLevel(1, 7), 5);
        due(x.inLevel(1, 6), 4);
        due(x.inLevel(1, 4), 0);
    }

    private static void inLevelBelow() {
        BalancedSplits x = sample();
        due(x.inLevel(-1, 0), BAD);
        due(x.inLevel(LOW, 0), BAD);
    }

    private static void inLevelBehind() {
        BalancedSplits x = sample();
        due(x.inLevel(1, 0), 0);
        due(x.inLevel(2, 0), BAD);
        due(x.inLevel(40, 0), BAD);
        due(x.inLevel(HIGH, 0), BAD);
        due(oneLevelOfThree().inLevel(1, 0), BAD);
    }

    private static void inLevelOfNoNode() {
        BalancedSplits x = sample();
        for (int none : new int[] {-1, 8, 39, 40, LOW, HIGH}) {
            due(x.inLevel(0, none), BAD);
            due(x.inLevel(1, none), BAD);
        }
    }

    private static void addLevelOf(Sentences all) {
        all.add("16.1", "\"WEIGHT of a NODE of LEVEL l (what = -1)\": of the first and the last",
                LevelSentences::weightOf);
        all.add("16.2", "\"0 without one\": and from a NODE to itself", LevelSentences::withoutArc);
        all.add("16.3", "\"BAD: no such LEVEL\": below 0", LevelSentences::levelOfBelow);
        all.add("16.4", "\"BAD: no such LEVEL\": behind the last", LevelSentences::levelOfBehind);
        all.add("16.5", "\"BAD: no such .. NODE\": one that LEVEL 0 has and LEVEL l has not", LevelSentences::goneNode);
        all.add("16.6", "\"BAD: no such .. NODE\": of no LEVEL", LevelSentences::levelOfNoNode);
        all.add("16.7", "\"its ARC to NODE what there\", \"BAD: no such .. NODE\": what is none of LEVEL l",
                LevelSentences::goneOther);
        all.add("16.8", "\"its ARC to NODE what there\", \"BAD: no such .. NODE\": what below -1",
                LevelSentences::otherBelow);
    }

    private static void weightOf() {
        BalancedSplits x = sample();
        due(x.levelOf(0, 0, -1), 1);
        due(x.levelOf(0, 7, -1), 8);
        due(x.levelOf(1, 0, -1), 6);
        due(x.levelOf(1, 5, -1), 8);
    }

    private static void withoutArc() {
        BalancedSplits x = sample();
        due(x.levelOf(0, 0, 7), 0);
        due(x.levelOf(0, 3, 3), 0);
        due(x.levelOf(1, 0, 5), 0);
        due(x.levelOf(1, 0, 0), 0);
        due(x.levelOf(1, 0, 1), 2);
    }

    private static void levelOfBelow() {
        BalancedSplits x = sample();
        due(x.levelOf(-1, 0, -1), BAD);
        due(x.levelOf(LOW, 0, 1), BAD);
    }

    private static void levelOfBehind() {
        BalancedSplits x = sample();
        due(x.levelOf(2, 0, -1), BAD);
        due(x.levelOf(40, 0, 1), BAD);
        due(x.levelOf(HIGH, 0, 1), BAD);
        due(oneLevelOfThree().levelOf(1, 0, -1), BAD);
    }

    private static void goneNode() {
        BalancedSplits x = sample();
        due(x.levelOf(1, 6, -1), BAD);
        due(x.levelOf(1, 6, 0), BAD);
        due(x.levelOf(0, 6, -1), 7);
    }

    private static void levelOfNoNode() {
        BalancedSplits x = sample();
        for (int none : new int[] {-1, 8, 39, 40, LOW, HIGH}) {
            due(x.levelOf(0, none, -1), BAD);
            due(x.levelOf(1, none, 0), BAD);
        }
    }

    private static void goneOther() {
        BalancedSplits x = sample();
        due(x.levelOf(1, 0, 6), BAD);
        due(x.levelOf(0, 0, 8), BAD);
        due(x.levelOf(0, 0, 40), BAD);
        due(x.levelOf(0, 0, HIGH), BAD);
        due(x.levelOf(0, 0, 6), 0);
    }

    private static void otherBelow() {
        BalancedSplits x = sample();
        due(x.levelOf(0, 0, -2), BAD);
        due(x.levelOf(1, 0, LOW), BAD);
    }
}
