import java.util.List;

/** Promises 20, 21, 23 and 24, and part 4 of the terms. */
final class StreamSentences extends Looks {
    static void addTo(Sentences all) {
        addAlpha(all);
        addRoom(all);
        addOrder(all);
        addSeparator(all);
        addSeparatorMade(all);
        addCount(all);
    }

    private static void addAlpha(Sentences all) {
        all.add("20.1", "\"ALPHA 0 ..\", \"BAD\": 0 is taken, below is not", StreamSentences::leastAlpha);
        all.add("20.2", "\".. 1000\", \"BAD\": 1000 is taken, above is not", StreamSentences::mostAlpha);
        all.add("20.3", "\"BAD\": changes nothing", StreamSentences::badStreamChangesNothing);
        all.add("20.4", "\"CUT\": though it does not FIT", StreamSentences::streamTellsCut);
        all.add("20.5", "\"in the ORDER of a seed\": not by number", StreamSentences::streamInOrder);
    }

    private static void leastAlpha() {
        BalancedSplits x = ones(2);
        due(x.stream(5, -1), BAD);
        due(x.stream(5, LOW), BAD);
        due(x.stream(5, 0), 0);
        due(x.part(0, 1), 2);
    }

    private static void mostAlpha() {
        BalancedSplits x = arcs(ones(2), 0, 1, 1);
        due(x.stream(5, 1001), BAD);
        due(x.stream(5, HIGH), BAD);
        due(x.stream(5, 1000), 0);
        // With 1000 the arc of 1 still holds against a weight of 1, but not against one of 2.
        BalancedSplits y = arcs(withNodes(2, 2), 0, 1, 1);
        due(y.stream(5, 1000), 1);
    }

    private static void badStreamChangesNothing() {
        BalancedSplits x = sample();
        List<Integer> before = seen(x);
        due(x.stream(1, -1), BAD);
        due(x.stream(1, 1001), BAD);
        dueSame(x, before);
    }

    private static void streamTellsCut() {
        BalancedSplits x = arcs(ones(2), 0, 1, 7);
        boundAll(x, 0, 0);
        due(x.stream(0, 0), 7);
        due(x.over(), 2);
    }

    private static void streamInOrder() {
        // Each goes to the emptier part: by turns in the order 4 2 3 0 1 of seed 7.
        BalancedSplits x = ones(5);
        x.stream(7, 1000);
        dueParts(x, 1, 0, 1, 0, 0);
    }

    private static void addRoom(Sentences all) {
        // The order of seed 0 is by number for two to four nodes.
        all.add("T4.1", "\"(the sum there with it is not above most)\": just at most there is room",
                StreamSentences::justRoom);
        all.add("T4.2", "\"(the sum there with it is not above most)\": one above there is none",
                StreamSentences::justNoRoom);
        all.add("T4.3", "\"that PART of those that have room\": one that draws more is passed over",
                StreamSentences::drawnButFull);
        all.add("T4.4", "\"1000 times .. less ALPHA times\": 1000 times 3 is like 1000 times 3",
                StreamSentences::drawnAlike);
        all.add("T4.5", "\"1000 times .. less ALPHA times .. is greatest\": one more weight drives off",
                StreamSentences::drivenOff);
        all.add("T4.6", "\"is greatest\": of those below 0 too", StreamSentences::allBelowZero);
        all.add("T4.7", "\"the least of like ones\": of three", StreamSentences::leastOfLike);
        all.add("T4.8", "\"its ARCS to NODES there\": of those that came by now, not of the SPLIT before",
                StreamSentences::streamForgets);
        all.add("T4.9", "\"if none has room, the PART with the least sum\": whatever draws",
                StreamSentences::noneHasRoom);
        all.add("T4.10", "\"the PART with the least sum (the least of like ones)\"", StreamSentences::leastOfLikeSums);
        all.add("T4.11", "\"that have room for it\": least is not looked at", StreamSentences::leastIsNoRoom);
    }

    private static void justRoom() {
        BalancedSplits x = withNodes(4, 4);
        x.bound(0, 0, 8);
        x.stream(0, 0);
        dueParts(x, 0, 0);
    }

    private static void justNoRoom() {
        BalancedSplits x = withNodes(4, 4);
        x.bound(0, 0, 7);
        x.stream(0, 0);
        dueParts(x, 0, 1);
    }

    private static void drawnButFull() {
        BalancedSplits x = arcs(ones(3), 0, 2, 1000);
        x.parts(3);
        x.bound(0, 0, 1);
        due(x.stream(0, 0), 1000);
        dueParts(x, 0, 1, 1);
    }

    private static void drawnAlike() {
        BalancedSplits x = arcs(withNodes(3, 3), 0, 1, 3);
        due(x.stream(0, 1000), 0);
        dueParts(x, 0, 0);
    }

    private static void drivenOff() {
        BalancedSplits x = arcs(withNodes(4, 4), 0, 1, 3);
        due(x.stream(0, 1000), 3);
        dueParts(x, 0, 1);
        due(x.stream(0, 750), 0);
        due(x.stream(0, 751), 3);
    }

    private static void allBelowZero() {
        // 0 (5) to 0, 1 (3) to 1; 2 has -2000 for 0 and -3000 for 1, though 1 has the least sum.
        BalancedSplits x = arcs(withNodes(5, 3, 1), 0, 2, 3);
        due(x.stream(0, 1000), 0);
        dueParts(x, 0, 1, 0);
    }

    private static void leastOfLike() {
        // -1000 for 0, then 0 for 1 and 2.
        BalancedSplits x = ones(4);
        x.parts(3);
        x.stream(0, 1000);
        dueParts(x, 0, 1, 2, 0);
    }

    private static void streamForgets() {
        BalancedSplits x = putAll(arcs(ones(3), 0, 1, 5, 1, 2, 5), 1, 1, 1);
        due(x.stream(0, 0), 0);
        dueParts(x, 0, 0, 0);
        // 0 does not feel 1, which comes later; 1 and 2 follow it.
        putAll(x, 0, 1, 1);
        x.stream(0, 0);
        dueParts(x, 0, 0, 0);
    }

    private static void noneHasRoom() {
        // 0 just fits into 1; then none has room, and 0 has the least sum, though 1 draws.
        BalancedSplits x = arcs(withNodes(5, 5), 0, 1, 1000);
        x.bound(0, 0, 4);
        x.bound(1, 0, 5);
        due(x.stream(0, 0), 1000);
        dueParts(x, 1, 0);
    }

    private static void leastOfLikeSums() {
        BalancedSplits x = ones(4);
        x.parts(3);
        boundAll(x, 0, 0);
        x.stream(0, 0);
        dueParts(x, 0, 1, 2, 0);
    }

    private static void leastIsNoRoom() {
        BalancedSplits x = ones(2);
        x.bound(1, 2, 2);
        x.stream(0, 0);
        dueParts(x, 0, 0);
    }

    private static void addOrder(Sentences all) {
        all.add("21.1", "\"NODE i\": the first and the last", StreamSentences::orderEnds);
        all.add("21.2", "\"NONE\": behind the last", StreamSentences::orderBehind);
        all.add("21.3", "\"NONE\": below 0", StreamSentences::orderBelow);
        all.add("21.4", "\"NODE i of the ORDER\": each NODE comes once, of forty", StreamSentences::eachOnce);
        all.add("21.5", "\"of one NODE\": it is the ORDER", StreamSentences::orderOfOne);
        all.add("T4.12", "\"x becomes x * 1103515245 + 12345 (32 bits)\": wraps around", StreamSentences::wraps);
        all.add("T4.13", "\"(bits 16 to 30)\": bit 31 is none of them", StreamSentences::highestBit);
        all.add("T4.14", "\"(bits 16 to 30)\": bit 15 is none of them, bit 16 is", StreamSentences::lowestBit);
        all.add("T4.15", "\"modulo how many are left\"", StreamSentences::howManyLeft);
        all.add("T4.16", "\"and goes from there\": the others stay in order", StreamSentences::othersStay);
        all.add("T4.17", "\"by seed\": the least and the greatest", StreamSentences::seedEdges);
    }

    private static void dueOrder(BalancedSplits x, int seed, int... want) {
        for (int i = 0; i < want.length; i++) {
            due(x.order(seed, i), want[i]);
        }
        due(x.order(seed, want.length), NONE);
    }

    private static void orderEnds() {
        BalancedSplits x = ones(10);
        due(x.order(7, 0), 4);
        due(x.order(7, 9), 2);
    }

    private static void orderBehind() {
        BalancedSplits x = ones(10);
        due(x.order(7, 10), NONE);
        due(x.order(7, 40), NONE);
        due(x.order(7, HIGH), NONE);
        due(ones(40).order(7, 40), NONE);
    }

    private static void orderBelow() {
        BalancedSplits x = ones(10);
        due(x.order(7, -1), NONE);
        due(x.order(7, LOW), NONE);
    }

    private static void eachOnce() {
        BalancedSplits x = ones(40);
        boolean[] came = new boolean[40];
        for (int i = 0; i < 40; i++) {
            int node = x.order(12345, i);
            due(node >= 0 && node < 40 && !came[node] ? 1 : 0, 1);
            came[node] = true;
        }
    }

    private static void orderOfOne() {
        dueOrder(ones(1), 7, 0);
        dueOrder(ones(1), -1, 0);
    }

    private static void wraps() {
        // Of seed 7, x is cc6c5534 and then 264e4f5d (hex), each the lowest 32 bits of a longer number.
        dueOrder(ones(10), 7, 4, 6, 5, 1, 9, 0, 7, 8, 3, 2);
    }

    private static void highestBit() {
        // Seeds 0 and 80000000 (hex) give numbers that differ in bit 31 alone.
        dueOrder(ones(5), 0, 0, 1, 3, 4, 2);
        dueOrder(ones(5), LOW, 0, 1, 3, 4, 2);
    }

    private static void lowestBit() {
        // Of seed 1, x is 41c67ea6 (hex): its bits 16 to 30 are 16838, bits 15 to 29 would be 908.
        due(ones(3).order(1, 0), 2);
        due(ones(16).order(1, 0), 6);
        due(ones(40).order(1, 0), 38);
    }

    private static void howManyLeft() {
        dueOrder(ones(2), 7, 0, 1);
        dueOrder(ones(5), 7, 4, 2, 3, 0, 1);
    }

    private static void othersStay() {
        // Of seed 1 and ten: place 8, then 7 of those left, then 1, 1, 1 of them, and so on.
        dueOrder(ones(10), 1, 8, 7, 1, 2, 3, 5, 6, 0, 4, 9);
    }

    private static void seedEdges() {
        dueOrder(ones(10), LOW, 0, 4, 6, 7, 1, 5, 3, 8, 2, 9);
        dueOrder(ones(10), HIGH, 9, 8, 6, 7, 1, 2, 0, 5, 3, 4);
        dueOrder(ones(10), -1, 9, 8, 6, 7, 1, 2, 0, 5, 3, 4);
    }

    private static void addSeparator(Sentences all) {
        all.add("23.1", "\"NONE\": of an empty SEPARATOR", StreamSentences::emptySeparator);
        all.add("23.2", "\"NONE\": behind the last", StreamSentences::behindSeparator);
        all.add("23.3", "\"NONE\": below 0", StreamSentences::belowSeparator);
        all.add("23.4", "\"NODE i of the SEPARATOR, rising\": not as they came", StreamSentences::risingSeparator);
    }

    private static void emptySeparator() {
        BalancedSplits x = arcs(ones(3), 0, 1, 5, 1, 2, 5);
        due(x.separator(0), NONE);
        due(x.count(4), 0);
        putAll(x, 1, 1, 1);
        due(x.separator(0), NONE);
        due(putAll(ones(2), 0, 1).separator(0), NONE);
    }

    /** 3 ends three arcs and comes first, then 0 for the arc to 1. */
    private static BalancedSplits zeroAndThree() {
        return putAll(arcs(ones(7), 3, 4, 1, 3, 5, 1, 3, 6, 1, 0, 1, 1), 0, 1, 0, 0, 1, 1, 1);
    }

    private static void behindSeparator() {
        BalancedSplits x = zeroAndThree();
        due(x.separator(1), 3);
        due(x.separator(2), NONE);
        due(x.separator(40), NONE);
        due(x.separator(HIGH), NONE);
    }

    private static void belowSeparator() {
        BalancedSplits x = zeroAndThree();
        due(x.separator(-1), NONE);
        due(x.separator(LOW), NONE);
    }

    private static void risingSeparator() {
        BalancedSplits x = zeroAndThree();
        due(x.separator(0), 0);
        due(x.separator(1), 3);
        due(x.count(4), 2);
    }

    private static void addSeparatorMade(Sentences all) {
        all.add("T4.18", "\"some ARC between unlike PARTS\": those within a PART do not count",
                StreamSentences::withinPart);
        all.add("T4.19", "\"the NODE that ends most such ARCS\": how many, not their WEIGHTS",
                StreamSentences::mostArcs);
        all.add("T4.20", "\"(of like ones that of less WEIGHT\"", StreamSentences::lighterEnd);
        all.add("T4.21", "\"then the least)\"", StreamSentences::leastEnd);
        all.add("T4.22", "\"has neither end in it\", \"most such ARCS\": those with an end in it count no more",
                StreamSentences::heldArcs);
        all.add("T4.23", "\"each goes out again, if all such ARCS have an end in it all the same\"",
                StreamSentences::goesOut);
        all.add("T4.24", "\"Then, by falling number\"", StreamSentences::fallingNumber);
    }

    private static void dueSeparator(BalancedSplits x, int... want) {
        due(x.count(4), want.length);
        for (int i = 0; i < want.length; i++) {
            due(x.separator(i), want[i]);
        }
        due(x.separator(want.length), NONE);
    }

    private static void withinPart() {
        // 0 ends three arcs, but only that to 3 is cut, which 3 ends too, and 3 ends that to 4.
        BalancedSplits x = arcs(ones(5), 0, 1, 1, 0, 2, 1, 0, 3, 1, 3, 4, 1);
        dueSeparator(putAll(x, 0, 0, 0, 1, 0), 3);
    }

    private static void mostArcs() {
        // 0 ends three and comes first, then 4, the lighter end of 1 - 4. By weights 1 would come first.
        BalancedSplits x = arcs(withNodes(5, 5, 5, 5, 1), 0, 1, 1, 0, 2, 1, 0, 3, 1, 1, 4, 1000);
        dueSeparator(putAll(x, 0, 1, 1, 1, 0), 0, 4);
    }

    private static void lighterEnd() {
        dueSeparator(putAll(arcs(withNodes(5, 4), 0, 1, 1), 0, 1), 1);
        dueSeparator(putAll(arcs(withNodes(4, 5), 0, 1, 1), 0, 1), 0);
    }

    private static void leastEnd() {
        dueSeparator(putAll(arcs(ones(2), 0, 1, 1), 0, 1), 0);
        dueSeparator(putAll(arcs(ones(3), 1, 2, 1), 0, 1, 0), 1);
    }

    private static void heldArcs() {
        // 0 comes by three arcs. Of 1, 2, 3 each has one arc left, like 4; 4 is the lightest of all.
        BalancedSplits x = arcs(withNodes(5, 5, 5, 5, 1), 0, 1, 1, 0, 2, 1, 0, 3, 1, 3, 4, 1);
        dueSeparator(putAll(x, 0, 1, 1, 1, 0), 0, 4);
    }

    private static void goesOut() {
        // 0 ends three arcs and comes first; 1, 2 and 3 come for their arcs to the heavy ones.
        BalancedSplits x = arcs(withNodes(1, 1, 1, 1, 9, 9, 9),
                0, 1, 1, 0, 2, 1, 0, 3, 1, 1, 4, 1, 2, 5, 1, 3, 6, 1);
        dueSeparator(putAll(x, 0, 1, 1, 1, 0, 0, 0), 1, 2, 3);
    }

    private static void fallingNumber() {
        // 0 and 1 come first, then 2 to 5 for their arcs to the heavy ones: 1 may go, and then 0 not.
        BalancedSplits x = arcs(withNodes(1, 1, 1, 1, 1, 1, 9, 9, 9, 9),
                0, 1, 1, 0, 2, 1, 0, 3, 1, 1, 4, 1, 1, 5, 1, 2, 6, 1, 3, 7, 1, 4, 8, 1, 5, 9, 1);
        dueSeparator(putAll(x, 0, 1, 1, 1, 0, 0, 0, 0, 1, 1), 0, 2, 3, 4, 5);
    }

    private static void addCount(Sentences all) {
        all.add("24.1", "\"BAD\": what below 0", StreamSentences::countBelow);
        all.add("24.2", "\"BAD\": what above 5", StreamSentences::countAbove);
        all.add("24.3", "\"How many NODES (0)\": from none to forty", StreamSentences::countNodes);
        all.add("24.4", "\"K (1)\": 2 to 4", StreamSentences::countParts);
        all.add("24.5", "\"ARCS (2)\": none, one told twice, all of twenty-eight NODES", StreamSentences::countArcs);
        all.add("24.6", "\"LEVELS (3)\": the first counts, also without NODES", StreamSentences::countLevels);
        all.add("24.7", "\"NODES in the SEPARATOR (4)\": none, and twenty of forty", StreamSentences::countSeparator);
        all.add("24.8", "\"the sum of VOLUMES (5)\": none, and the most of four NODES", StreamSentences::countVolumes);
    }

    private static void countBelow() {
        due(sample().count(-1), BAD);
        due(sample().count(LOW), BAD);
    }

    private static void countAbove() {
        due(sample().count(6), BAD);
        due(sample().count(HIGH), BAD);
    }

    private static void countNodes() {
        BalancedSplits x = new BalancedSplits();
        for (int i = 0; i < 40; i++) {
            due(x.count(0), i);
            x.node(1);
        }
        due(x.count(0), 40);
        x.node(1);
        due(x.count(0), 40);
    }

    private static void countParts() {
        BalancedSplits x = new BalancedSplits();
        for (int k = 2; k <= 4; k++) {
            x.parts(k);
            due(x.count(1), k);
        }
        x.parts(5);
        due(x.count(1), 4);
    }

    private static void countArcs() {
        BalancedSplits x = ones(28);
        due(x.count(2), 0);
        x.arc(0, 1, 5);
        x.arc(1, 0, 5);
        due(x.count(2), 1);
        for (int i = 0; i < 28; i++) {
            for (int j = 0; j < i; j++) {
                x.arc(i, j, 1);
            }
        }
        due(x.count(2), 378);
    }

    private static void countLevels() {
        due(new BalancedSplits().count(3), 1);
        due(ones(1).count(3), 1);
        due(ringOfOnes(12).count(3), 2);
    }

    private static void countSeparator() {
        BalancedSplits x = ones(40);
        for (int i = 0; i < 20; i++) {
            x.arc(i, i + 20, 1);
        }
        due(x.count(4), 0);
        for (int i = 0; i < 20; i++) {
            x.put(i, 1);
        }
        due(x.count(4), 20);
    }

    private static void countVolumes() {
        BalancedSplits x = arcs(ones(4), 0, 1, 1, 0, 2, 1, 0, 3, 1, 1, 2, 1, 1, 3, 1, 2, 3, 1);
        x.parts(4);
        due(x.count(5), 0);
        putAll(x, 0, 1, 2, 3);
        due(x.count(5), 12);
        putAll(x, 0, 0, 1, 1);
        due(x.count(5), 4);
    }
}
