import java.util.List;

/** Promises 1 to 7 and part 1 of the terms, as far as it says what a graph may hold. */
final class GraphSentences extends Looks {
    static void addTo(Sentences all) {
        all.add("0.1", "\"at most 512 calls\": the last of them answers as the first", GraphSentences::lastCall);
        addNew(all);
        addNode(all);
        addArc(all);
        addParts(all);
        addBound(all);
        addPut(all);
        addClear(all);
    }

    private static void lastCall() {
        BalancedSplits x = ringOfOnes(40);
        boundAll(x, 20, 20);
        int first = x.run();
        for (int call = 85; call <= 512; call++) {
            due(x.run(), first);
        }
        due(first, 2);
    }

    private static void addNew(Sentences all) {
        all.add("1.1", "\"No NODES\": a new object has none", GraphSentences::noNodes);
        all.add("1.2", "\"No NODES\": what the calls on a split answer then", GraphSentences::splitOfNone);
        all.add("1.3", "\"No NODES\": what the calls on levels answer then", GraphSentences::levelsOfNone);
        all.add("1.4", "\"No NODES\": what the calls that make splits answer then", GraphSentences::madeOfNone);
        all.add("1.5", "\"K 2\"", GraphSentences::twoParts);
        all.add("1.6", "\"BOUNDS 0 .. 1000000\": the least is 0", GraphSentences::firstLeast);
        all.add("1.7", "\"BOUNDS 0 .. 1000000\": the most is 1000000", GraphSentences::firstMost);
        all.add("1.8", "\"ALPHA 0\": a first stream with 0, and one behind a greater ALPHA",
                GraphSentences::firstAlpha);
        all.add("1.9", "\"BAD = -1, NONE = -2, FULL = -3, TURN = -4\"", GraphSentences::constants);
    }

    private static void noNodes() {
        BalancedSplits x = new BalancedSplits();
        due(x.count(0), 0);
        due(x.of(0, 0), BAD);
        due(x.put(0, 0), BAD);
        due(x.part(0, 1), 0);
        due(x.clear(), 0);
    }

    private static void splitOfNone() {
        BalancedSplits x = new BalancedSplits();
        due(x.between(0, 0), BAD);
        due(x.arc(0, 1, 1), BAD);
        due(x.part(1, 0), 0);
        due(x.cut(), 0);
        due(x.over(), 0);
        due(x.gain(0, 0), BAD_GAIN);
        due(x.count(5), 0);
    }

    private static void levelsOfNone() {
        BalancedSplits x = new BalancedSplits();
        due(x.count(3), 1);
        due(x.level(0, 0), 0);
        due(x.level(0, 1), 0);
        due(x.level(0, 2), 0);
        due(x.level(1, 0), NONE);
        due(x.inLevel(0, 0), BAD);
        due(x.levelOf(0, 0, -1), BAD);
    }

    private static void madeOfNone() {
        BalancedSplits x = new BalancedSplits();
        due(x.run(), 0);
        due(x.refine(), 0);
        due(x.grow(), 0);
        due(x.stream(7, 1000), 0);
        due(x.order(7, 0), NONE);
        due(x.exact(), 0);
        due(x.separator(0), NONE);
        due(x.count(4), 0);
    }

    private static void twoParts() {
        BalancedSplits x = new BalancedSplits();
        due(x.count(1), 2);
        due(x.part(1, 1), 0);
        due(x.part(2, 1), BAD);
        due(x.parts(3), 2);
    }

    private static void firstLeast() {
        BalancedSplits x = new BalancedSplits();
        due(x.part(0, 2), 0);
        due(x.part(1, 2), 0);
        due(x.over(), 0);
    }

    private static void firstMost() {
        BalancedSplits x = new BalancedSplits();
        due(x.part(0, 3), 1000000);
        due(x.part(1, 3), 1000000);
    }

    private static void firstAlpha() {
        BalancedSplits x = ones(4);
        x.stream(1, 0);
        due(x.part(0, 1), 4);
        x.stream(1, 1000);
        due(x.part(0, 1), 2);
        x.stream(1, 0);
        due(x.part(0, 1), 4);
    }

    private static void constants() {
        due(constant("BAD"), -1);
        due(constant("NONE"), -2);
        due(constant("FULL"), -3);
        due(constant("TURN"), -4);
    }

    /** Not by its name in the code, which the compiler would answer before the class is there. */
    private static int constant(String name) {
        try {
            return BalancedSplits.class.getField(name).getInt(null);
        } catch (ReflectiveOperationException e) {
            throw new IllegalStateException(e);
        }
    }

    private static void addNode(Sentences all) {
        all.add("2.1", "\"A NODE more, in PART 0\": though others are elsewhere", GraphSentences::inPartZero);
        all.add("2.2", "\"its number\": from 0 on, a refused call takes none", GraphSentences::number);
        all.add("2.3", "\"a WEIGHT 1 ..\", \"BAD\": 1 is taken, 0 and below are not", GraphSentences::leastWeight);
        all.add("2.4", "\".. 1000\", \"BAD\": 1000 is taken, 1001 and above are not", GraphSentences::mostWeight);
        all.add("2.5", "\"BAD\": a refused weight changes nothing", GraphSentences::badNodeChangesNothing);
        all.add("2.6", "\"up to 40 NODES\": the fortieth is taken", GraphSentences::fortieth);
        all.add("2.7", "\"FULL\": the forty-first is not", GraphSentences::fortyFirst);
        all.add("2.8", "\"FULL\": changes nothing", GraphSentences::fullChangesNothing);
        all.add("2.9", "\"BAD; FULL\": BAD comes first", GraphSentences::badBeforeFull);
    }

    private static void inPartZero() {
        BalancedSplits x = withNodes(1);
        x.put(0, 1);
        due(x.node(1), 1);
        dueParts(x, 1, 0);
        x.grow();
        x.node(1);
        due(x.of(2, 1), 0);
        x.stream(0, 0);
        x.node(1);
        due(x.of(3, 1), 0);
    }

    private static void number() {
        BalancedSplits x = new BalancedSplits();
        due(x.node(5), 0);
        due(x.node(1001), BAD);
        due(x.node(5), 1);
        due(x.node(5), 2);
    }

    private static void leastWeight() {
        BalancedSplits x = new BalancedSplits();
        due(x.node(0), BAD);
        due(x.node(-1), BAD);
        due(x.node(LOW), BAD);
        due(x.node(1), 0);
        due(x.of(0, 0), 1);
    }

    private static void mostWeight() {
        BalancedSplits x = new BalancedSplits();
        due(x.node(1001), BAD);
        due(x.node(HIGH), BAD);
        due(x.node(1000), 0);
        due(x.of(0, 0), 1000);
    }

    private static void badNodeChangesNothing() {
        BalancedSplits x = sample();
        List<Integer> before = seen(x);
        due(x.node(0), BAD);
        due(x.node(1001), BAD);
        dueSame(x, before);
    }

    private static void fortieth() {
        BalancedSplits x = ones(39);
        due(x.node(1000), 39);
        due(x.of(39, 0), 1000);
        due(x.count(0), 40);
    }

    private static void fortyFirst() {
        BalancedSplits x = ones(40);
        due(x.node(1), FULL);
        due(x.node(1000), FULL);
        due(x.count(0), 40);
    }

    private static void fullChangesNothing() {
        BalancedSplits x = ones(40);
        x.put(39, 1);
        due(x.node(7), FULL);
        due(x.of(39, 0), 1);
        due(x.of(39, 1), 1);
        due(x.of(0, 0), 1);
        due(x.part(0, 0), 39);
    }

    private static void badBeforeFull() {
        BalancedSplits x = ones(40);
        due(x.node(0), BAD);
        due(x.node(1001), BAD);
    }

    private static void addArc(Sentences all) {
        all.add("3.1", "\"what it has then\"", GraphSentences::whatItHas);
        all.add("3.2", "\"one told again adds to it\": from either end, and is one ARC", GraphSentences::toldAgain);
        all.add("3.3", "\"between two unlike ones\", \"BAD\": not from a NODE to itself", GraphSentences::toItself);
        all.add("3.4", "\"of a WEIGHT 1 ..\", \"BAD\": 1 is taken, 0 and below are not", GraphSentences::leastArc);
        all.add("3.5", "\".. 1000\", \"BAD\": 1000 is taken, 1001 and above are not", GraphSentences::mostArc);
        all.add("3.6", "\"BAD\": the first is no NODE", GraphSentences::noFirstEnd);
        all.add("3.7", "\"BAD\": the second is no NODE", GraphSentences::noSecondEnd);
        all.add("3.8", "\"BAD\": changes nothing", GraphSentences::badArcChangesNothing);
        // 1000000 is beyond what 512 calls can tell, so these go on past them.
        all.add("3.9", "\"(1000000 at most)\": 1000000 is reached", GraphSentences::fullArc);
        all.add("3.10", "\"FULL: above 1000000\": one above is not", GraphSentences::aboveFullArc);
        all.add("3.11", "\"FULL\": changes nothing, and BAD is named before it", GraphSentences::fullArcChangesNothing);
    }

    private static void whatItHas() {
        BalancedSplits x = ones(3);
        due(x.arc(0, 1, 5), 5);
        due(x.arc(0, 1, 7), 12);
        due(x.arc(1, 2, 3), 3);
    }

    private static void toldAgain() {
        BalancedSplits x = ones(2);
        x.arc(0, 1, 5);
        due(x.arc(1, 0, 1000), 1005);
        due(x.between(0, 1), 1005);
        due(x.between(1, 0), 1005);
        due(x.count(2), 1);
        due(x.of(0, 3), 1);
    }

    private static void toItself() {
        BalancedSplits x = ones(2);
        due(x.arc(0, 0, 1), BAD);
        due(x.arc(1, 1, 1), BAD);
        due(x.between(1, 1), 0);
        due(x.count(2), 0);
    }

    private static void leastArc() {
        BalancedSplits x = ones(2);
        due(x.arc(0, 1, 0), BAD);
        due(x.arc(0, 1, -1), BAD);
        due(x.arc(0, 1, LOW), BAD);
        due(x.arc(0, 1, 1), 1);
    }

    private static void mostArc() {
        BalancedSplits x = ones(2);
        due(x.arc(0, 1, 1001), BAD);
        due(x.arc(0, 1, HIGH), BAD);
        due(x.arc(0, 1, 1000), 1000);
    }

    private static void noFirstEnd() {
        BalancedSplits x = ones(3);
        for (int none : new int[] {-1, 3, 39, 40, LOW, HIGH}) {
            due(x.arc(none, 0, 1), BAD);
        }
        due(x.arc(2, 0, 1), 1);
    }

    private static void noSecondEnd() {
        BalancedSplits x = ones(3);
        for (int none : new int[] {-1, 3, 39, 40, LOW, HIGH}) {
            due(x.arc(0, none, 1), BAD);
        }
        due(x.arc(0, 2, 1), 1);
    }

    private static void badArcChangesNothing() {
        BalancedSplits x = sample();
        List<Integer> before = seen(x);
        due(x.arc(0, 1, 0), BAD);
        due(x.arc(0, 1, 1001), BAD);
        due(x.arc(0, 0, 1), BAD);
        due(x.arc(0, 8, 1), BAD);
        due(x.arc(-1, 0, 1), BAD);
        dueSame(x, before);
    }

    private static BalancedSplits withArcOf999999() {
        BalancedSplits x = ones(2);
        for (int i = 0; i < 999; i++) {
            x.arc(0, 1, 1000);
        }
        x.arc(0, 1, 999);
        return x;
    }

    private static void fullArc() {
        BalancedSplits x = withArcOf999999();
        due(x.between(0, 1), 999999);
        due(x.arc(1, 0, 1), 1000000);
        due(x.between(0, 1), 1000000);
    }

    private static void aboveFullArc() {
        BalancedSplits x = withArcOf999999();
        due(x.arc(0, 1, 2), FULL);
        due(x.arc(0, 1, 1000), FULL);
        x.arc(0, 1, 1);
        due(x.arc(0, 1, 1), FULL);
    }

    private static void fullArcChangesNothing() {
        BalancedSplits x = withArcOf999999();
        List<Integer> before = seen(x);
        due(x.arc(0, 1, 2), FULL);
        due(x.arc(0, 1, 1001), BAD);
        dueSame(x, before);
    }

    private static void addParts(Sentences all) {
        all.add("4.1", "\"K before\": of like K too", GraphSentences::partsBefore);
        all.add("4.2", "\"K 2 ..\", \"BAD\": 2 is taken, 1 and below are not", GraphSentences::fewestParts);
        all.add("4.3", "\".. 4\", \"BAD\": 4 is taken, 5 and above are not", GraphSentences::mostParts);
        all.add("4.4", "\"PARTS 0 .. K - 1\": K - 1 is there, K is not", GraphSentences::lastPart);
        all.add("4.5", "\"all NODES are in PART 0\": those of PARTS that go too", GraphSentences::allInPartZero);
        all.add("4.6", "\"all BOUNDS as at first\": the least", GraphSentences::leastAsAtFirst);
        all.add("4.7", "\"all BOUNDS as at first\": the most", GraphSentences::mostAsAtFirst);
        all.add("4.8", "\"K from now on\": all of it with the same K too", GraphSentences::sameParts);
        all.add("4.9", "\"BAD\": changes nothing", GraphSentences::badPartsChangeNothing);
    }

    private static void partsBefore() {
        BalancedSplits x = new BalancedSplits();
        due(x.parts(4), 2);
        due(x.parts(4), 4);
        due(x.parts(3), 4);
        due(x.parts(2), 3);
    }

    private static void fewestParts() {
        BalancedSplits x = new BalancedSplits();
        x.parts(3);
        for (int few : new int[] {1, 0, -1, LOW}) {
            due(x.parts(few), BAD);
        }
        due(x.parts(2), 3);
        due(x.count(1), 2);
    }

    private static void mostParts() {
        BalancedSplits x = new BalancedSplits();
        for (int many : new int[] {5, 6, 40, HIGH}) {
            due(x.parts(many), BAD);
        }
        due(x.parts(4), 2);
        due(x.count(1), 4);
    }

    private static void lastPart() {
        BalancedSplits x = ones(1);
        for (int k = 2; k <= 4; k++) {
            x.parts(k);
            due(x.put(0, k), BAD);
            due(x.put(0, k - 1), 0);
            due(x.part(k - 1, 1), 1);
        }
    }

    private static void allInPartZero() {
        BalancedSplits x = ones(4);
        x.parts(4);
        putAll(x, 0, 1, 2, 3);
        x.parts(2);
        dueParts(x, 0, 0, 0, 0);
    }

    private static void leastAsAtFirst() {
        BalancedSplits x = new BalancedSplits();
        x.parts(4);
        boundAll(x, 7, 9);
        x.parts(2);
        due(x.part(0, 2), 0);
        due(x.part(1, 2), 0);
        x.parts(4);
        due(x.part(2, 2), 0);
        due(x.part(3, 2), 0);
    }

    private static void mostAsAtFirst() {
        BalancedSplits x = new BalancedSplits();
        x.parts(4);
        boundAll(x, 7, 9);
        x.parts(2);
        due(x.part(0, 3), 1000000);
        due(x.part(1, 3), 1000000);
        x.parts(4);
        due(x.part(2, 3), 1000000);
        due(x.part(3, 3), 1000000);
    }

    private static void sameParts() {
        BalancedSplits x = ones(2);
        x.bound(1, 3, 4);
        x.put(1, 1);
        due(x.parts(2), 2);
        due(x.part(1, 2), 0);
        due(x.part(1, 3), 1000000);
        dueParts(x, 0, 0);
    }

    private static void badPartsChangeNothing() {
        BalancedSplits x = sample();
        List<Integer> before = seen(x);
        due(x.parts(1), BAD);
        due(x.parts(5), BAD);
        dueSame(x, before);
    }

    private static void addBound(Sentences all) {
        all.add("5.1", "\"BOUNDS of a PART: 0\": both of this one and of no other", GraphSentences::boundsOfOne);
        all.add("5.2", "\"(0 ..\", \"BAD\": 0 is taken, below is not", GraphSentences::leastBound);
        all.add("5.3", "\".. 1000000)\", \"BAD\": 1000000 is taken, above is not", GraphSentences::mostBound);
        all.add("5.4", "\"BAD (also least above most)\": one above", GraphSentences::leastAboveMost);
        all.add("5.5", "\"BAD (also least above most)\": like ones are taken", GraphSentences::leastIsMost);
        all.add("5.6", "\"BAD\": no such PART, K among them", GraphSentences::boundOfNoPart);
        all.add("5.7", "\"BAD\": changes nothing", GraphSentences::badBoundChangesNothing);
        all.add("5.8", "\"BOUNDS of a PART: 0\": a SPLIT that does not FIT them stays", GraphSentences::splitStays);
    }

    private static void boundsOfOne() {
        BalancedSplits x = new BalancedSplits();
        x.parts(3);
        due(x.bound(1, 3, 4), 0);
        due(x.part(1, 2), 3);
        due(x.part(1, 3), 4);
        due(x.part(0, 2), 0);
        due(x.part(2, 3), 1000000);
    }

    private static void leastBound() {
        BalancedSplits x = new BalancedSplits();
        due(x.bound(0, -1, 5), BAD);
        due(x.bound(0, LOW, 5), BAD);
        due(x.bound(0, -2, -1), BAD);
        due(x.bound(0, 0, 0), 0);
        due(x.part(0, 3), 0);
    }

    private static void mostBound() {
        BalancedSplits x = new BalancedSplits();
        due(x.bound(0, 5, 1000001), BAD);
        due(x.bound(0, 5, HIGH), BAD);
        due(x.bound(0, 1000001, 1000002), BAD);
        due(x.bound(0, 1000000, 1000000), 0);
        due(x.part(0, 2), 1000000);
    }

    private static void leastAboveMost() {
        BalancedSplits x = new BalancedSplits();
        due(x.bound(0, 6, 5), BAD);
        due(x.bound(0, 1000000, 0), BAD);
    }

    private static void leastIsMost() {
        BalancedSplits x = new BalancedSplits();
        due(x.bound(0, 5, 5), 0);
        due(x.part(0, 2), 5);
        due(x.part(0, 3), 5);
    }

    private static void boundOfNoPart() {
        BalancedSplits x = new BalancedSplits();
        for (int none : new int[] {-1, 2, 3, 4, LOW, HIGH}) {
            due(x.bound(none, 0, 1), BAD);
        }
        x.parts(3);
        due(x.bound(3, 0, 1), BAD);
        due(x.bound(2, 0, 1), 0);
    }

    private static void badBoundChangesNothing() {
        BalancedSplits x = sample();
        List<Integer> before = seen(x);
        due(x.bound(0, -1, 5), BAD);
        due(x.bound(1, 1, 1000001), BAD);
        due(x.bound(2, 2, 1), BAD);
        due(x.bound(3, 0, 1), BAD);
        dueSame(x, before);
    }

    private static void splitStays() {
        BalancedSplits x = putAll(ones(3), 0, 1, 0);
        boundAll(x, 0, 0);
        dueParts(x, 0, 1, 0);
        due(x.over(), 3);
    }

    private static void addPut(Sentences all) {
        all.add("6.1", "\"the one before\": and the same PART again", GraphSentences::partBefore);
        all.add("6.2", "\"BAD\": no such NODE", GraphSentences::putOfNoNode);
        all.add("6.3", "\"BAD\": no such PART, K among them", GraphSentences::putIntoNoPart);
        all.add("6.4", "\"BAD\": changes nothing", GraphSentences::badPutChangesNothing);
        all.add("6.5", "\"A NODE comes to a PART\": one that is full all the same", GraphSentences::putIntoFullPart);
    }

    private static void partBefore() {
        BalancedSplits x = ones(1);
        due(x.put(0, 1), 0);
        due(x.put(0, 1), 1);
        due(x.put(0, 0), 1);
        due(x.put(0, 0), 0);
    }

    private static void putOfNoNode() {
        BalancedSplits x = ones(3);
        for (int none : new int[] {-1, 3, 39, 40, LOW, HIGH}) {
            due(x.put(none, 0), BAD);
        }
        due(x.put(2, 1), 0);
    }

    private static void putIntoNoPart() {
        BalancedSplits x = ones(1);
        for (int none : new int[] {-1, 2, 3, 4, LOW, HIGH}) {
            due(x.put(0, none), BAD);
        }
        due(x.put(0, 1), 0);
    }

    private static void badPutChangesNothing() {
        BalancedSplits x = sample();
        List<Integer> before = seen(x);
        due(x.put(8, 0), BAD);
        due(x.put(-1, 0), BAD);
        due(x.put(0, 3), BAD);
        due(x.put(0, -1), BAD);
        dueSame(x, before);
    }

    private static void putIntoFullPart() {
        BalancedSplits x = ones(2);
        x.bound(1, 0, 0);
        due(x.put(0, 1), 0);
        due(x.put(1, 1), 0);
        due(x.part(1, 1), 2);
    }

    private static void addClear(Sentences all) {
        all.add("7.1", "\"how many NODES there were\": none, some, forty", GraphSentences::howManyWent);
        all.add("7.2", "\"All goes\": forty NODES have room again", GraphSentences::roomAgain);
        all.add("7.3", "\"All goes\": no ARC of before comes back", GraphSentences::noOldArc);
        all.add("7.4", "\"(As a new object.)\": K 2", GraphSentences::clearedParts);
        all.add("7.5", "\"(As a new object.)\": BOUNDS 0 .. 1000000", GraphSentences::clearedBounds);
        all.add("7.6", "\"(As a new object.)\": NODES come to PART 0 again", GraphSentences::clearedSplit);
        all.add("7.7", "\"(As a new object.)\": one LEVEL, without NODES", GraphSentences::clearedLevels);
        all.add("7.8", "\"(As a new object.)\": all that can be seen", GraphSentences::clearedAll);
    }

    private static void howManyWent() {
        BalancedSplits x = new BalancedSplits();
        due(x.clear(), 0);
        x.node(1);
        due(x.clear(), 1);
        due(x.clear(), 0);
        due(ones(40).clear(), 40);
    }

    private static void roomAgain() {
        BalancedSplits x = ones(40);
        x.clear();
        due(x.count(0), 0);
        due(x.of(0, 0), BAD);
        for (int i = 0; i < 40; i++) {
            due(x.node(2), i);
        }
        due(x.node(2), FULL);
        due(x.part(0, 0), 80);
    }

    private static void noOldArc() {
        BalancedSplits x = ones(2);
        x.arc(0, 1, 5);
        x.clear();
        x.node(1);
        x.node(1);
        due(x.between(0, 1), 0);
        due(x.count(2), 0);
        due(x.arc(1, 0, 3), 3);
    }

    private static void clearedParts() {
        BalancedSplits x = ones(1);
        x.parts(4);
        x.clear();
        due(x.count(1), 2);
        due(x.part(2, 0), BAD);
        due(x.parts(3), 2);
    }

    private static void clearedBounds() {
        BalancedSplits x = new BalancedSplits();
        boundAll(x, 3, 4);
        x.clear();
        for (int p = 0; p < 2; p++) {
            due(x.part(p, 2), 0);
            due(x.part(p, 3), 1000000);
        }
        due(x.over(), 0);
    }

    private static void clearedSplit() {
        BalancedSplits x = putAll(ones(3), 1, 1, 1);
        x.clear();
        x.node(1);
        x.node(1);
        dueParts(x, 0, 0);
    }

    private static void clearedLevels() {
        BalancedSplits x = ringOfOnes(12);
        due(x.count(3), 2);
        x.clear();
        due(x.count(3), 1);
        due(x.level(0, 0), 0);
        due(x.level(1, 0), NONE);
    }

    private static void clearedAll() {
        BalancedSplits x = sample();
        x.run();
        x.clear();
        dueSame(x, seen(new BalancedSplits()));
    }
}
