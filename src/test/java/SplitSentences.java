import java.util.List;

/** Promises 8 to 13, and what part 1 of the terms says of CUT, OVER, GAIN and VOLUME. */
final class SplitSentences extends Looks {
    static void addTo(Sentences all) {
        addOf(all);
        addBetween(all);
        addPart(all);
        addCut(all);
        addOver(all);
        addGain(all);
    }

    private static void addOf(Sentences all) {
        all.add("8.1", "\"BAD\": no such NODE, whatever is asked", SplitSentences::ofNoNode);
        all.add("8.2", "\"BAD\": what below 0", SplitSentences::ofBelow);
        all.add("8.3", "\"BAD\": what above 3", SplitSentences::ofAbove);
        all.add("8.4", "\"WEIGHT of a NODE (what = 0)\": the least and the most", SplitSentences::weights);
        all.add("8.5", "\"its PART (1)\": the first and the last", SplitSentences::parts);
        all.add("8.6", "\"VOLUME\", \"PARTS but its own\": its own does not count", SplitSentences::volumeInside);
        all.add("8.7", "\"VOLUME: how many PARTS\": one counts once", SplitSentences::volumeOnce);
        all.add("8.8", "\"VOLUME\", \"its neighbours (by ARCS)\": 0 without any, 1 by the least ARC",
                SplitSentences::volumeAlone);
        all.add("8.9", "\"VOLUME: how many PARTS\": K - 1 at most", SplitSentences::volumeMost);
        all.add("8.10", "\"how many neighbours (3)\": none", SplitSentences::noNeighbours);
        all.add("8.11", "\"how many neighbours (3)\": thirty-nine", SplitSentences::allNeighbours);
        all.add("8.12", "\"how many neighbours (3)\": one told again, of any PART, counts once",
                SplitSentences::neighbourOnce);
        all.add("8.13", "\"BAD\", and \"NONE\": a refused question, of this and of the calls below, changes nothing",
                SplitSentences::refusedQuestions);
    }

    private static void refusedQuestions() {
        BalancedSplits x = sample();
        List<Integer> before = seen(x);
        due(x.of(8, 0), BAD);
        due(x.of(0, 4), BAD);
        due(x.between(0, 8), BAD);
        due(x.part(3, 0), BAD);
        due(x.part(0, 4), BAD);
        due(x.gain(8, 0), BAD_GAIN);
        due(x.gain(0, 3), BAD_GAIN);
        due(x.level(2, 0), NONE);
        due(x.level(0, 3), BAD);
        due(x.inLevel(2, 0), BAD);
        due(x.levelOf(1, 6, -1), BAD);
        due(x.order(1, 8), NONE);
        due(x.separator(8), NONE);
        due(x.count(6), BAD);
        dueSame(x, before);
    }

    private static void ofNoNode() {
        BalancedSplits x = ones(3);
        for (int none : new int[] {-1, 3, 39, 40, LOW, HIGH}) {
            for (int what = -1; what <= 4; what++) {
                due(x.of(none, what), BAD);
            }
        }
        due(x.of(2, 0), 1);
    }

    private static void ofBelow() {
        BalancedSplits x = ones(1);
        due(x.of(0, -1), BAD);
        due(x.of(0, LOW), BAD);
    }

    private static void ofAbove() {
        BalancedSplits x = ones(1);
        due(x.of(0, 4), BAD);
        due(x.of(0, HIGH), BAD);
    }

    private static void weights() {
        BalancedSplits x = withNodes(1, 1000);
        due(x.of(0, 0), 1);
        due(x.of(1, 0), 1000);
    }

    private static void parts() {
        BalancedSplits x = ones(2);
        x.parts(4);
        x.put(1, 3);
        due(x.of(0, 1), 0);
        due(x.of(1, 1), 3);
    }

    private static void volumeInside() {
        BalancedSplits x = arcs(ones(3), 0, 1, 5, 0, 2, 5);
        due(x.of(0, 2), 0);
        putAll(x, 1, 1, 1);
        due(x.of(0, 2), 0);
    }

    private static void volumeOnce() {
        BalancedSplits x = arcs(ones(4), 0, 1, 5, 0, 2, 5, 0, 3, 5);
        putAll(x, 0, 1, 1, 1);
        due(x.of(0, 2), 1);
        due(x.of(1, 2), 1);
    }

    private static void volumeAlone() {
        BalancedSplits x = putAll(ones(3), 0, 1, 1);
        due(x.of(0, 2), 0);
        x.arc(0, 1, 1);
        due(x.of(0, 2), 1);
        due(x.of(2, 2), 0);
    }

    private static void volumeMost() {
        BalancedSplits x = arcs(ones(5), 0, 1, 1, 0, 2, 1, 0, 3, 1, 0, 4, 1);
        x.parts(4);
        putAll(x, 0, 1, 2, 3, 0);
        due(x.of(0, 2), 3);
        putAll(x, 3, 0, 1, 2);
        due(x.of(0, 2), 3);
    }

    private static void noNeighbours() {
        BalancedSplits x = arcs(ones(3), 0, 1, 5);
        due(x.of(2, 3), 0);
    }

    private static void allNeighbours() {
        BalancedSplits x = ones(40);
        for (int i = 0; i < 39; i++) {
            x.arc(39, i, 1);
        }
        due(x.of(39, 3), 39);
        due(x.of(0, 3), 1);
    }

    private static void neighbourOnce() {
        BalancedSplits x = arcs(ones(3), 0, 1, 5, 1, 0, 5, 0, 2, 1);
        x.put(2, 1);
        due(x.of(0, 3), 2);
        due(x.of(1, 3), 1);
    }

    private static void addBetween(Sentences all) {
        all.add("9.1", "\"0 without one\": and from a NODE to itself", SplitSentences::withoutArc);
        all.add("9.2", "\"BAD: no such NODE\": the first", SplitSentences::betweenNoFirst);
        all.add("9.3", "\"BAD: no such NODE\": the second", SplitSentences::betweenNoSecond);
        all.add("9.4", "\"between two NODES\": from either end", SplitSentences::eitherEnd);
    }

    private static void withoutArc() {
        BalancedSplits x = arcs(ones(3), 0, 1, 5);
        due(x.between(0, 2), 0);
        due(x.between(0, 0), 0);
        due(x.between(2, 2), 0);
    }

    private static void betweenNoFirst() {
        BalancedSplits x = ones(3);
        for (int none : new int[] {-1, 3, 39, 40, LOW, HIGH}) {
            due(x.between(none, 0), BAD);
            due(x.between(none, none), BAD);
        }
    }

    private static void betweenNoSecond() {
        BalancedSplits x = ones(3);
        for (int none : new int[] {-1, 3, 39, 40, LOW, HIGH}) {
            due(x.between(0, none), BAD);
        }
    }

    private static void eitherEnd() {
        BalancedSplits x = arcs(ones(3), 2, 0, 9);
        due(x.between(0, 2), 9);
        due(x.between(2, 0), 9);
    }

    private static void addPart(Sentences all) {
        all.add("10.1", "\"BAD\": no such PART, K among them", SplitSentences::ofNoPart);
        all.add("10.2", "\"BAD\": what below 0", SplitSentences::partBelow);
        all.add("10.3", "\"BAD\": what above 3", SplitSentences::partAbove);
        all.add("10.4", "\"The sum of WEIGHTS in a PART (what = 0)\": of none, and the most there can be",
                SplitSentences::sums);
        all.add("10.5", "\"how many NODES (1)\": none, and forty", SplitSentences::nodesThere);
        all.add("10.6", "\"least (2), most (3)\": at their edges", SplitSentences::boundsThere);
    }

    private static void ofNoPart() {
        BalancedSplits x = ones(3);
        for (int none : new int[] {-1, 2, 3, 4, LOW, HIGH}) {
            for (int what = -1; what <= 4; what++) {
                due(x.part(none, what), BAD);
            }
        }
        x.parts(3);
        due(x.part(3, 0), BAD);
        due(x.part(2, 0), 0);
    }

    private static void partBelow() {
        BalancedSplits x = ones(1);
        due(x.part(0, -1), BAD);
        due(x.part(0, LOW), BAD);
    }

    private static void partAbove() {
        BalancedSplits x = ones(1);
        due(x.part(0, 4), BAD);
        due(x.part(0, HIGH), BAD);
    }

    private static BalancedSplits fortyOfAThousand() {
        BalancedSplits x = new BalancedSplits();
        for (int i = 0; i < 40; i++) {
            x.node(1000);
        }
        return x;
    }

    private static void sums() {
        BalancedSplits x = fortyOfAThousand();
        due(x.part(0, 0), 40000);
        due(x.part(1, 0), 0);
        x.put(39, 1);
        due(x.part(0, 0), 39000);
        due(x.part(1, 0), 1000);
    }

    private static void nodesThere() {
        BalancedSplits x = fortyOfAThousand();
        due(x.part(0, 1), 40);
        due(x.part(1, 1), 0);
        x.put(39, 1);
        due(x.part(0, 1), 39);
        due(x.part(1, 1), 1);
    }

    private static void boundsThere() {
        BalancedSplits x = new BalancedSplits();
        x.bound(0, 0, 1);
        x.bound(1, 999999, 1000000);
        due(x.part(0, 2), 0);
        due(x.part(0, 3), 1);
        due(x.part(1, 2), 999999);
        due(x.part(1, 3), 1000000);
    }

    private static void addCut(Sentences all) {
        all.add("11.1", "\"ARCS between NODES of unlike PARTS\": none, if all are in one", SplitSentences::nothingCut);
        all.add("11.2", "\"ARCS between NODES of unlike PARTS\": all, if each is in its own", SplitSentences::allCut);
        all.add("11.3", "\"the sum of ARCS\": each counts once, with what it has by now", SplitSentences::cutOnce);
        all.add("11.4", "\"CUT\": telling it changes nothing", SplitSentences::tellingChangesNothing);
    }

    private static void nothingCut() {
        BalancedSplits x = arcs(ones(3), 0, 1, 5, 1, 2, 70);
        due(x.cut(), 0);
        putAll(x, 1, 1, 1);
        due(x.cut(), 0);
    }

    private static void allCut() {
        BalancedSplits x = arcs(ones(4), 0, 1, 1, 0, 2, 20, 0, 3, 300, 1, 2, 1000, 1, 3, 50, 2, 3, 6);
        x.parts(4);
        putAll(x, 0, 1, 2, 3);
        due(x.cut(), 1377);
        x.put(3, 2);
        due(x.cut(), 1371);
    }

    private static void cutOnce() {
        BalancedSplits x = putAll(ones(2), 0, 1);
        due(x.cut(), 0);
        x.arc(0, 1, 5);
        due(x.cut(), 5);
        x.arc(1, 0, 1);
        due(x.cut(), 6);
        x.put(0, 1);
        due(x.cut(), 0);
    }

    private static void tellingChangesNothing() {
        BalancedSplits x = sample();
        List<Integer> before = seen(x);
        x.cut();
        x.over();
        x.gain(0, 2);
        x.level(1, 2);
        x.levelOf(1, 0, 1);
        x.order(5, 3);
        x.separator(0);
        dueSame(x, before);
    }

    private static void addOver(Sentences all) {
        all.add("12.1", "\"below least\": at least it is 0, one below it is 1", SplitSentences::atLeast);
        all.add("12.2", "\"above most\": at most it is 0, one above it is 1", SplitSentences::atMost);
        all.add("12.3", "\"the sum, over PARTS\": of both kinds, of all PARTS", SplitSentences::overAllParts);
        all.add("12.4", "\"of how far .. is below least\": of a PART without NODES", SplitSentences::emptyPart);
        all.add("12.5", "\"OVER\": the most there can be", SplitSentences::mostOver);
    }

    private static void atLeast() {
        BalancedSplits x = withNodes(5);
        x.bound(0, 5, 1000000);
        due(x.over(), 0);
        x.bound(0, 6, 1000000);
        due(x.over(), 1);
        x.bound(0, 4, 1000000);
        due(x.over(), 0);
    }

    private static void atMost() {
        BalancedSplits x = withNodes(5);
        x.bound(0, 0, 5);
        due(x.over(), 0);
        x.bound(0, 0, 4);
        due(x.over(), 1);
        x.bound(0, 0, 6);
        due(x.over(), 0);
    }

    private static void overAllParts() {
        BalancedSplits x = putAll(withNodes(5, 6, 7), 0, 1, 1);
        x.bound(0, 7, 9);
        x.bound(1, 1, 10);
        due(x.over(), 2 + 3);
        x.parts(4);
        putAll(x, 1, 2, 3);
        x.bound(0, 1, 9);
        x.bound(1, 0, 4);
        x.bound(2, 8, 8);
        x.bound(3, 0, 0);
        due(x.over(), 1 + 1 + 2 + 7);
    }

    private static void emptyPart() {
        BalancedSplits x = new BalancedSplits();
        x.bound(1, 1, 1);
        due(x.over(), 1);
        x.bound(0, 1000000, 1000000);
        due(x.over(), 1000001);
    }

    private static void mostOver() {
        BalancedSplits x = fortyOfAThousand();
        x.parts(4);
        x.bound(0, 0, 0);
        for (int p = 1; p < 4; p++) {
            x.bound(p, 1000000, 1000000);
        }
        due(x.over(), 3040000);
    }

    private static void addGain(Sentences all) {
        all.add("13.1", "\"(0 for its own)\"", SplitSentences::gainOfOwn);
        all.add("13.2", "\"by how much CUT would be less\": below 0, if it would be more", SplitSentences::loss);
        all.add("13.3", "\"by how much CUT would be less\": ARCS to third PARTS do not count",
                SplitSentences::thirdPart);
        all.add("13.4", "\"BAD: - 100000000\": no such NODE", SplitSentences::gainOfNoNode);
        all.add("13.5", "\"BAD: - 100000000\": no such PART, K among them", SplitSentences::gainOfNoPart);
        all.add("13.6", "\"if it were there\": it is not moved", SplitSentences::gainMovesNothing);
    }

    private static void gainOfOwn() {
        BalancedSplits x = arcs(ones(3), 0, 1, 5, 0, 2, 7);
        x.put(2, 1);
        due(x.gain(0, 0), 0);
        due(x.gain(2, 1), 0);
        due(x.gain(0, 1), 2);
    }

    private static void loss() {
        BalancedSplits x = arcs(ones(3), 0, 1, 1000);
        due(x.gain(0, 1), -1000);
        due(x.gain(2, 1), 0);
        x.put(1, 1);
        due(x.gain(0, 1), 1000);
    }

    private static void thirdPart() {
        BalancedSplits x = arcs(ones(4), 0, 1, 5, 0, 2, 20, 0, 3, 300);
        x.parts(4);
        putAll(x, 0, 0, 1, 2);
        due(x.gain(0, 1), 15);
        due(x.gain(0, 2), 295);
        due(x.gain(0, 3), -5);
    }

    private static void gainOfNoNode() {
        BalancedSplits x = ones(3);
        for (int none : new int[] {-1, 3, 39, 40, LOW, HIGH}) {
            due(x.gain(none, 0), BAD_GAIN);
        }
    }

    private static void gainOfNoPart() {
        BalancedSplits x = ones(3);
        for (int none : new int[] {-1, 2, 3, 4, LOW, HIGH}) {
            due(x.gain(0, none), BAD_GAIN);
        }
    }

    private static void gainMovesNothing() {
        BalancedSplits x = arcs(ones(2), 0, 1, 5);
        due(x.gain(0, 1), -5);
        dueParts(x, 0, 0);
        due(x.cut(), 0);
    }
}
