/** Promises 17 to 19 and 22, and part 3 of the terms. */
final class RunSentences extends Looks {
    static void addTo(Sentences all) {
        addRun(all);
        addFirstSplit(all);
        addGrowing(all);
        addWhereMoves(all);
        addPasses(all);
        addChoice(all);
        addPassEnd(all);
        addRefine(all);
        addGrow(all);
        addExact(all);
        addTurn(all);
    }

    private static void addRun(Sentences all) {
        all.add("17.1", "\"CUT\": 0, if it FITS and nothing is cut", RunSentences::runCutsNothing);
        all.add("17.2", "\"CUT\": what is cut, if it FITS", RunSentences::runCuts);
        all.add("17.3", "\"- 10 less OVER if it does not FIT\": by the least, OVER 1", RunSentences::runMissesByOne);
        all.add("17.4", "\"- 10 less OVER if it does not FIT\": of no NODES", RunSentences::runMissesWithoutNodes);
        all.add("17.5", "\"- 10 less OVER if it does not FIT\": the most there can be", RunSentences::runMissesByMost);
        all.add("17.6", "\"RUN\": the SPLIT of before does not matter", RunSentences::runForgets);
    }

    private static void runCutsNothing() {
        BalancedSplits x = arcs(ones(2), 0, 1, 5);
        due(x.run(), 0);
        boundAll(x, 0, 2);
        due(x.run(), 0);
    }

    private static void runCuts() {
        BalancedSplits x = arcs(ones(2), 0, 1, 1000);
        boundAll(x, 1, 1);
        due(x.run(), 1000);
        due(x.over(), 0);
    }

    private static void runMissesByOne() {
        BalancedSplits x = ones(1);
        boundAll(x, 0, 0);
        due(x.run(), -11);
        due(x.over(), 1);
        boundAll(x, 0, 1);
        due(x.run(), 0);
    }

    private static void runMissesWithoutNodes() {
        BalancedSplits x = new BalancedSplits();
        x.bound(1, 5, 9);
        due(x.run(), -15);
    }

    private static void runMissesByMost() {
        BalancedSplits x = new BalancedSplits();
        x.parts(4);
        boundAll(x, 1000000, 1000000);
        due(x.run(), -4000010);
        BalancedSplits y = new BalancedSplits();
        for (int i = 0; i < 40; i++) {
            y.node(1000);
        }
        boundAll(y, 0, 0);
        due(y.run(), -40010);
    }

    private static void runForgets() {
        BalancedSplits x = ones(7);
        boundAll(x, 0, 4);
        putAll(x, 1, 1, 1, 0, 0, 0, 0);
        x.run();
        dueParts(x, 0, 1, 0, 1, 0, 1, 0);
        BalancedSplits y = putAll(ones(4), 1, 1, 0, 0);
        boundAll(y, 2, 2);
        y.run();
        dueParts(y, 0, 0, 1, 1);
    }

    private static void addFirstSplit(Sentences all) {
        all.add("T3.1", "\"if it has 6 NODES or fewer\": 6 are tried, not grown", RunSentences::sixAreTried);
        all.add("T3.2", "\"Else GROWING\": 7 are grown, not tried", RunSentences::sevenAreGrown);
        all.add("T3.3", "\"on the last LEVEL, if it has 6 NODES or fewer\": 7 joined to 6", RunSentences::joinedToSix);
        all.add("T3.4", "\"Else GROWING\": 8 joined to 7 are grown there, with the WEIGHTS there",
                RunSentences::joinedToSeven);
        all.add("T3.5", "\"that with the least OVER\": before the least CUT", RunSentences::triedByOver);
        all.add("T3.6", "\"of these with the least CUT\": before the first", RunSentences::triedByCut);
        all.add("T3.7", "\"of these the first (NODES in order, the first one's PART changing slowest)\"",
                RunSentences::triedInOrder);
    }

    private static void sixAreTried() {
        // Grown, they would be 0 2 4 and 1 3 5, and no move keeps within such bounds.
        BalancedSplits x = arcs(ones(6), 0, 1, 1, 1, 2, 1, 3, 4, 1, 4, 5, 1);
        boundAll(x, 3, 3);
        due(x.run(), 0);
        dueParts(x, 0, 0, 0, 1, 1, 1);
    }

    private static void sevenAreGrown() {
        // Room 4 3: 0 0, 1 0 (3 3), 2 1 (2 3), 3 0 (2 2), 4 1 (1 2), 5 0 (1 1), 6 1. The best would cut nothing.
        BalancedSplits x = arcs(ones(7), 0, 2, 1, 0, 4, 2, 0, 6, 4, 1, 3, 9, 3, 5, 9);
        x.bound(0, 4, 4);
        x.bound(1, 3, 3);
        due(x.run(), 7);
        dueParts(x, 0, 0, 1, 0, 1, 0, 1);
        due(x.count(3), 1);
    }

    private static void joinedToSix() {
        // LIMIT is 8 / 4 = 2: 1 and 2 are joined. Grown, 0 (2) and these two (2) would be apart.
        BalancedSplits x = arcs(withNodes(2, 1, 1, 1, 1, 1, 1), 0, 1, 1, 1, 2, 9);
        boundAll(x, 4, 4);
        due(x.level(1, 0), 6);
        due(x.run(), 0);
        dueParts(x, 0, 0, 0, 1, 1, 1, 1);
    }

    private static void joinedToSeven() {
        // 6 7 (2) goes to 0 first: room 2 4. Then 0 1, 1 1, 2 0, 3 1, 4 0, 5 1.
        BalancedSplits x = arcs(ones(8), 6, 7, 5);
        boundAll(x, 4, 4);
        due(x.level(1, 0), 7);
        due(x.run(), 0);
        dueParts(x, 1, 1, 0, 1, 0, 1, 0, 0);
    }

    private static void triedByOver() {
        BalancedSplits x = arcs(ones(2), 0, 1, 1000);
        boundAll(x, 0, 1);
        due(x.run(), 1000);
        dueParts(x, 0, 1);
    }

    private static void triedByCut() {
        BalancedSplits x = arcs(ones(4), 0, 3, 5, 1, 2, 5);
        boundAll(x, 2, 2);
        due(x.run(), 0);
        dueParts(x, 0, 1, 1, 0);
    }

    private static void triedInOrder() {
        BalancedSplits x = ones(4);
        boundAll(x, 2, 2);
        x.run();
        dueParts(x, 0, 0, 1, 1);
        x.parts(3);
        x.bound(0, 1, 1);
        x.bound(1, 1, 2);
        x.bound(2, 1, 2);
        x.run();
        dueParts(x, 0, 1, 1, 2);
    }

    private static void addGrowing(Sentences all) {
        all.add("T3.8", "\"NODES by falling WEIGHT\"", RunSentences::fallingWeight);
        all.add("T3.9", "\"(of like ones by number)\"", RunSentences::likeWeights);
        all.add("T3.10", "\"for which most less the sum of those there is greatest\": not the least sum",
                RunSentences::mostLessSum);
        all.add("T3.11", "\"(the first of like ones)\"", RunSentences::likeRoom);
        all.add("T3.12", "\"most less the sum\": below 0 too", RunSentences::roomBelowZero);
    }

    private static void fallingWeight() {
        // 2 (5) 0, 1 (3) 1, 0 (1) 1; by number it would be 0 0, 1 1, 2 0.
        BalancedSplits x = withNodes(1, 3, 5);
        x.grow();
        dueParts(x, 1, 1, 0);
    }

    private static void likeWeights() {
        // 1 (9) 0, then 0 1, 2 2 and so on: by falling number 0 would be the last.
        BalancedSplits x = withNodes(2, 9, 2, 2);
        x.parts(4);
        x.grow();
        dueParts(x, 1, 0, 2, 3);
    }

    private static void mostLessSum() {
        BalancedSplits x = ones(3);
        x.bound(0, 0, 5);
        x.bound(1, 4, 7);
        // Room 5 7, then 5 6, then 5 5. By the least sum it would be 0, 1, 0; least is not looked at.
        x.grow();
        dueParts(x, 1, 1, 0);
    }

    private static void likeRoom() {
        BalancedSplits x = ones(4);
        x.parts(3);
        x.grow();
        dueParts(x, 0, 1, 2, 0);
    }

    private static void roomBelowZero() {
        // Room 0 1: 1, then 0 0: 0, then -1 0: 1, then -1 -1: 0, then -2 -1: 1.
        BalancedSplits x = ones(5);
        x.bound(0, 0, 0);
        x.bound(1, 0, 1);
        x.grow();
        dueParts(x, 1, 0, 1, 0, 1);
    }

    private static void addWhereMoves(Sentences all) {
        all.add("T3.13", "\"Then MOVES there\": on the last LEVEL", RunSentences::movesOnLast);
        all.add("T3.14", "\"each NODE has the PART of the one that it is in below\"", RunSentences::partOfBelow);
        all.add("T3.15", "\"LEVEL by LEVEL upwards\", \"then MOVES\": on LEVELS between", RunSentences::movesBetween);
        all.add("T3.16", "\"LEVEL by LEVEL upwards\", \"then MOVES\": on THE GRAPH", RunSentences::movesOnGraph);
    }

    private static void movesOnLast() {
        // Seven that are not joined, LIMIT 1. Grown by turns, 0 then goes to 1 by gain 5.
        BalancedSplits x = arcs(ones(7), 0, 1, 5);
        due(x.count(3), 1);
        due(x.run(), 0);
        dueParts(x, 1, 1, 0, 1, 0, 1, 0);
    }

    private static void partOfBelow() {
        // 0 1 and 2 3 are joined (LIMIT 2), six are left: 2 2 1 1 1 1, of which the first two make 4.
        BalancedSplits x = arcs(ones(8), 0, 1, 5, 2, 3, 5);
        boundAll(x, 4, 4);
        due(x.run(), 0);
        dueParts(x, 0, 0, 0, 0, 1, 1, 1, 1);
    }

    /** Without moves on level 1 it would end with a cut of 8; Oracle says the same of it. */
    private static void movesBetween() {
        BalancedSplits x = withNodes(10, 2, 1, 1, 2, 2, 2, 1, 2);
        arcs(x, 2, 4, 2, 5, 0, 2, 7, 0, 5, 8, 0, 3, 6, 7, 4, 0, 3, 2, 4, 3, 1, 2, 5, 1, 3, 7, 1);
        boundAll(x, 9, 14);
        due(x.count(3), 3);
        due(x.run(), 6);
    }

    private static void movesOnGraph() {
        // Pairs cannot make 3 and 5: 0 1 2 3 and 4 5 6 7 come up, then 0 (of like ones the least) goes.
        BalancedSplits x = ringOfOnes(8);
        x.bound(0, 3, 3);
        x.bound(1, 5, 5);
        due(x.level(1, 0), 4);
        due(x.run(), 2);
        dueParts(x, 1, 0, 0, 0, 1, 1, 1, 1);
    }

    private static void addPasses(Sentences all) {
        all.add("T3.17", "\"PASSES, up to 8\": an eighth is done", RunSentences::eightPasses);
        all.add("T3.18", "\"PASSES, up to 8\": a ninth is not", RunSentences::noNinthPass);
        all.add("T3.19", "\"(OVER less\": though CUT is more", RunSentences::overLess);
        all.add("T3.20", "\"OVER the same and CUT less\": of an OVER above 0 too", RunSentences::cutLess);
        all.add("T3.21", "\"while one makes it better\": not by like OVER and like CUT", RunSentences::noBetter);
        all.add("T3.22", "\"A PASS: all NODES are free\": those that an earlier one moved too",
                RunSentences::freeAgain);
    }

    /** A path that a ninth pass would still make better; Oracle says the same of it. */
    private static BalancedSplits nineSteps() {
        BalancedSplits x = ones(14);
        int[] path = {7, 14, 8, 5, 17, 19, 6, 12, 8, 17, 6, 18, 1};
        for (int i = 0; i < 13; i++) {
            x.arc(i, i + 1, path[i]);
        }
        x.parts(3);
        boundAll(x, 4, 5);
        return putAll(x, 0, 0, 0, 2, 2, 1, 1, 1, 0, 0, 2, 0, 0, 0);
    }

    private static void eightPasses() {
        BalancedSplits x = nineSteps();
        due(x.refine(), 8);
        due(x.cut(), 14);
    }

    private static void noNinthPass() {
        BalancedSplits x = nineSteps();
        x.refine();
        due(x.cut(), 14);
        due(x.refine(), 1);
        due(x.cut(), 13);
    }

    private static void overLess() {
        BalancedSplits x = arcs(ones(2), 0, 1, 7);
        boundAll(x, 0, 1);
        due(x.refine(), 1);
        due(x.over(), 0);
        due(x.cut(), 7);
    }

    private static void cutLess() {
        BalancedSplits x = putAll(arcs(ones(3), 0, 1, 5), 0, 1, 0);
        boundAll(x, 0, 0);
        due(x.over(), 3);
        due(x.refine(), 1);
        due(x.over(), 3);
        due(x.cut(), 0);
        dueParts(x, 1, 1, 0);
    }

    private static void noBetter() {
        BalancedSplits x = putAll(ones(3), 0, 1, 0);
        due(x.refine(), 0);
        dueParts(x, 0, 1, 0);
    }

    private static void freeAgain() {
        // In the first pass 0 goes, then 1 and 2 go and come back; in the second refine 1 must go.
        BalancedSplits x = putAll(arcs(ones(3), 0, 1, 5, 1, 2, 1), 0, 1, 0);
        x.bound(0, 1, 2);
        x.bound(1, 1, 2);
        due(x.refine(), 1);
        dueParts(x, 1, 1, 0);
        putAll(x, 0, 1, 1);
        due(x.cut(), 5);
        due(x.refine(), 1);
        due(x.cut(), 1);
    }

    private static void addChoice(Sentences all) {
        all.add("T3.23", "\"PARTS but theirs\": to stay is no MOVE", RunSentences::stayingIsNone);
        all.add("T3.24", "\"by which OVER does not grow\": one by which it grows is not done", RunSentences::noGrowth);
        all.add("T3.25", "\"by which OVER does not grow\": one that leaves it the same is", RunSentences::sameOver);
        all.add("T3.26", "\"that with the least OVER behind it\": before the greatest GAIN", RunSentences::leastOver);
        all.add("T3.27", "\"of these with the greatest GAIN\": before the least NODE and PART",
                RunSentences::greatestGain);
        all.add("T3.28", "\"then the least NODE\"", RunSentences::leastNode);
        all.add("T3.29", "\"the least PART\"", RunSentences::leastPart);
        all.add("T3.30", "\"the NODE is free no more\"", RunSentences::freeNoMore);
        all.add("T3.31", "\"on and on, till there is none\": through a GAIN below 0", RunSentences::onAndOn);
    }

    /** 0 and 1 hang together by 2, and by 1 each on 2, which may not leave part 1 empty. */
    private static BalancedSplits climb() {
        BalancedSplits x = arcs(ones(3), 0, 1, 2, 0, 2, 1, 1, 2, 1);
        x.bound(1, 1, 1000000);
        return putAll(x, 0, 0, 1);
    }

    private static void stayingIsNone() {
        // Were it one, its gain of 0 would come before the -1 by which the climb begins.
        BalancedSplits x = climb();
        due(x.gain(0, 1), -1);
        due(x.refine(), 1);
        dueParts(x, 1, 1, 1);
    }

    private static void noGrowth() {
        // 1 and 2 changing places would cut nothing, but the first of the two makes over grow.
        BalancedSplits x = putAll(arcs(ones(4), 0, 2, 5, 1, 3, 5), 0, 0, 1, 1);
        boundAll(x, 2, 2);
        due(x.refine(), 0);
        due(x.cut(), 10);
        dueParts(x, 0, 0, 1, 1);
    }

    private static void sameOver() {
        // Both parts are above their most, wherever the two are.
        BalancedSplits x = putAll(arcs(ones(2), 0, 1, 5), 0, 1);
        boundAll(x, 0, 0);
        due(x.refine(), 1);
        due(x.over(), 2);
        dueParts(x, 1, 1);
    }

    private static void leastOver() {
        // 0 (2) leaves over 0 with gain 0; 1 would leave 1 with gain 9. Then part 1 is full.
        BalancedSplits x = putAll(arcs(withNodes(2, 1, 3, 1), 1, 3, 9), 0, 0, 0, 1);
        x.bound(0, 0, 4);
        x.bound(1, 0, 3);
        due(x.over(), 2);
        due(x.refine(), 1);
        due(x.over(), 0);
        dueParts(x, 1, 0, 0, 1);
    }

    private static void greatestGain() {
        // 0 to 2 gains 5, 0 to 1 gains 3; then 1 follows.
        BalancedSplits x = arcs(ones(3), 0, 1, 3, 0, 2, 5);
        x.parts(3);
        putAll(x, 0, 1, 2);
        due(x.refine(), 1);
        dueParts(x, 2, 2, 2);
    }

    private static void leastNode() {
        BalancedSplits x = putAll(arcs(ones(2), 0, 1, 5), 0, 1);
        due(x.refine(), 1);
        dueParts(x, 1, 1);
    }

    private static void leastPart() {
        // 0 gains 5 by part 1 and by part 2; then 2 follows.
        BalancedSplits x = arcs(ones(3), 0, 1, 5, 0, 2, 5);
        x.parts(3);
        putAll(x, 0, 1, 2);
        due(x.refine(), 1);
        dueParts(x, 1, 1, 1);
    }

    private static void freeNoMore() {
        // 0 goes with gain -3; back it would gain 3, but 1 must go on with gain 1, and 2 gains 5.
        BalancedSplits x = arcs(ones(4), 0, 1, 2, 0, 2, 2, 1, 2, 2, 0, 3, 1, 1, 3, 1, 2, 3, 1);
        x.bound(1, 1, 1000000);
        putAll(x, 0, 0, 0, 1);
        due(x.cut(), 3);
        due(x.refine(), 1);
        due(x.cut(), 0);
        dueParts(x, 1, 1, 1, 1);
    }

    private static void onAndOn() {
        BalancedSplits x = climb();
        due(x.cut(), 2);
        due(x.refine(), 1);
        due(x.cut(), 0);
    }

    private static void addPassEnd(Sentences all) {
        all.add("T3.32", "\"Then it goes back to where it was best in the PASS\"", RunSentences::goesBack);
        all.add("T3.33", "\"(its beginning too\"", RunSentences::backToBeginning);
        all.add("T3.34", "\"the first of like ones)\"", RunSentences::firstOfLikeOnes);
    }

    private static void goesBack() {
        // 0 gains 5; then 1 has to go with gain -5.
        BalancedSplits x = putAll(arcs(ones(2), 0, 1, 5), 0, 1);
        x.refine();
        due(x.cut(), 0);
        due(x.part(1, 1), 2);
    }

    private static void backToBeginning() {
        // 0 goes and 1 follows, which is as good as the beginning and no better.
        BalancedSplits x = arcs(ones(2), 0, 1, 5);
        due(x.refine(), 0);
        dueParts(x, 0, 0);
        due(x.cut(), 0);
    }

    private static void firstOfLikeOnes() {
        // Behind 0, 2 goes with gain 0.
        BalancedSplits x = putAll(arcs(ones(3), 0, 1, 5), 0, 1, 0);
        due(x.refine(), 1);
        dueParts(x, 1, 1, 0);
    }

    private static void addRefine(Sentences all) {
        all.add("18.1", "\"how many PASSES made it better\": none, and the one that did not is not counted",
                RunSentences::refineCounts);
        all.add("18.2", "\"of the SPLIT as it is, on THE GRAPH alone\": though a RUN would find a better one",
                RunSentences::refineAlone);
    }

    private static void refineCounts() {
        BalancedSplits x = putAll(arcs(ones(2), 0, 1, 5), 0, 1);
        due(x.refine(), 1);
        due(x.refine(), 0);
        due(ones(1).refine(), 0);
    }

    private static void refineAlone() {
        BalancedSplits x = putAll(arcs(ones(4), 0, 2, 5, 1, 3, 5), 0, 0, 1, 1);
        boundAll(x, 2, 2);
        x.refine();
        due(x.cut(), 10);
        due(x.run(), 0);
    }

    private static void addGrow(Sentences all) {
        all.add("19.1", "\"GROWING .. alone\": without MOVES behind it", RunSentences::growWithoutMoves);
        all.add("19.2", "\"on THE GRAPH alone\": not on the last LEVEL", RunSentences::growOnGraph);
        all.add("19.3", "\"CUT\": though it does not FIT", RunSentences::growTellsCut);
        all.add("19.4", "\"GROWING\": the SPLIT of before does not matter", RunSentences::growForgets);
    }

    private static void growWithoutMoves() {
        BalancedSplits x = arcs(ones(7), 0, 1, 5);
        due(x.grow(), 5);
        dueParts(x, 0, 1, 0, 1, 0, 1, 0);
    }

    private static void growOnGraph() {
        BalancedSplits x = arcs(ones(8), 6, 7, 5);
        due(x.level(1, 0), 7);
        due(x.grow(), 5);
        dueParts(x, 0, 1, 0, 1, 0, 1, 0, 1);
    }

    private static void growTellsCut() {
        BalancedSplits x = arcs(ones(2), 0, 1, 7);
        boundAll(x, 0, 0);
        due(x.grow(), 7);
        due(x.over(), 2);
    }

    private static void growForgets() {
        BalancedSplits x = putAll(ones(3), 1, 1, 1);
        x.grow();
        dueParts(x, 0, 1, 0);
        x.grow();
        dueParts(x, 0, 1, 0);
    }

    private static void addExact(Sentences all) {
        all.add("22.1", "\"the least OVER\": before the least CUT", RunSentences::exactOver);
        all.add("22.2", "\"then CUT\": before the first", RunSentences::exactCut);
        all.add("22.3", "\"the first of like ones\"", RunSentences::exactFirst);
        all.add("22.4", "\"CUT\": 0 and more, if it FITS", RunSentences::exactTellsCut);
        all.add("22.5", "\"- 10 less OVER\": by the least, OVER 1", RunSentences::exactMisses);
        all.add("22.6", "\"of all\": of no NODES there is one", RunSentences::exactOfNone);
    }

    private static void exactOver() {
        BalancedSplits x = arcs(ones(7), 0, 6, 1000);
        x.bound(0, 0, 6);
        x.bound(1, 0, 1);
        // All in part 0 would cut nothing; of those that fit, 1 may go alone, and the last one first.
        due(x.exact(), 0);
        dueParts(x, 0, 0, 0, 0, 0, 1, 0);
        for (int i = 1; i < 6; i++) {
            x.arc(i, 0, 1000);
        }
        due(x.exact(), 1000);
        dueParts(x, 0, 0, 0, 0, 0, 0, 1);
    }

    private static void exactCut() {
        BalancedSplits x = arcs(ones(8), 0, 7, 5, 0, 5, 5, 0, 3, 5);
        boundAll(x, 4, 4);
        due(x.exact(), 0);
        dueParts(x, 0, 1, 1, 0, 1, 0, 1, 0);
    }

    private static void exactFirst() {
        BalancedSplits x = ones(8);
        boundAll(x, 4, 4);
        due(x.exact(), 0);
        dueParts(x, 0, 0, 0, 0, 1, 1, 1, 1);
        x.bound(0, 0, 8);
        x.bound(1, 0, 8);
        x.exact();
        dueParts(x, 0, 0, 0, 0, 0, 0, 0, 0);
    }

    private static void exactTellsCut() {
        BalancedSplits x = arcs(ones(2), 0, 1, 1000);
        due(x.exact(), 0);
        boundAll(x, 1, 1);
        due(x.exact(), 1000);
    }

    private static void exactMisses() {
        BalancedSplits x = ones(1);
        boundAll(x, 0, 0);
        due(x.exact(), -11);
        due(x.over(), 1);
    }

    private static void exactOfNone() {
        BalancedSplits x = new BalancedSplits();
        due(x.exact(), 0);
        x.bound(0, 5, 9);
        due(x.exact(), -15);
    }

    private static void addTurn(Sentences all) {
        all.add("22.7", "\"more than 60000\": 32768 of fifteen NODES and 2 PARTS are not", () -> notTooMany(2, 15));
        all.add("22.8", "\"more than 60000\": 65536 of sixteen NODES and 2 PARTS are", () -> tooMany(2, 16));
        all.add("22.9", "\"more than 60000\": 59049 of ten NODES and 3 PARTS are not", () -> notTooMany(3, 10));
        all.add("22.10", "\"more than 60000\": 177147 of eleven NODES and 3 PARTS are", () -> tooMany(3, 11));
        all.add("22.11", "\"more than 60000\": 16384 of seven NODES and 4 PARTS are not", () -> notTooMany(4, 7));
        all.add("22.12", "\"more than 60000\": 65536 of eight NODES and 4 PARTS are", () -> tooMany(4, 8));
        all.add("22.13", "\"TURN\": of numbers that wrap around in 32 bits too", RunSentences::turnPastWrap);
        all.add("22.14", "\"(nothing is done)\"", RunSentences::turnDoesNothing);
    }

    /** One node is asked for in the last part: in the first split of those, it is the last one. */
    private static void notTooMany(int k, int nodes) {
        BalancedSplits x = ones(nodes);
        x.parts(k);
        x.bound(k - 1, 1, 1);
        due(x.exact(), 0);
        due(x.of(nodes - 1, 1), k - 1);
        due(x.part(0, 1), nodes - 1);
    }

    private static void tooMany(int k, int nodes) {
        BalancedSplits x = ones(nodes);
        x.parts(k);
        due(x.exact(), TURN);
    }

    private static void turnPastWrap() {
        for (int k = 2; k <= 4; k++) {
            BalancedSplits x = ones(15);
            x.parts(k);
            for (int nodes = 16; nodes <= 40; nodes++) {
                x.node(1);
                due(x.exact(), TURN);
            }
        }
    }

    private static void turnDoesNothing() {
        BalancedSplits x = ones(16);
        putAll(x, 1, 0, 1, 0, 1, 0, 1, 0, 1, 0, 1, 0, 1, 0, 1, 1);
        x.bound(0, 16, 16);
        due(x.exact(), TURN);
        dueParts(x, 1, 0, 1, 0, 1, 0, 1, 0, 1, 0, 1, 0, 1, 0, 1, 1);
        due(x.part(0, 2), 16);
    }
}
