import java.util.ArrayList;
import java.util.List;

/**
 * The whole document, cut into clauses from its first line to its last. Beside each clause that says
 * what a call answers or changes stand the numbers of its tests in SentencesTest, or FaceTest.
 */
final class Clauses {
    record Clause(String text, boolean silent, List<String> tests) {
    }

    private final List<Clause> all = new ArrayList<>();

    static List<Clause> all() {
        Clauses clauses = new Clauses();
        clauses.whatItIs();
        clauses.face();
        clauses.graph();
        clauses.levels();
        clauses.firstSplit();
        clauses.moves();
        clauses.stream();
        clauses.separator();
        clauses.told();
        clauses.changed();
        clauses.tellings();
        clauses.levelCalls();
        clauses.made();
        clauses.madeBySeed();
        clauses.exactAndCounts();
        clauses.notPromised();
        return clauses.all;
    }

    private void says(String text, String... tests) {
        all.add(new Clause(text, false, List.of(tests)));
    }

    /** Says nothing of what a call answers or changes. */
    private void silent(String text) {
        all.add(new Clause(text, true, List.of()));
    }

    private void whatItIs() {
        silent("# BalancedSplits ## What it is");
        says("A graph split into parts within bounds:", "T1.1", "17.7");
        says("joined down level by level,", "14.8", "T2.5");
        says("split first by trying all or by growing,", "T3.1", "T3.2");
        says("moved back up by gains;", "T3.15", "T3.16");
        says("streams that see each node once,", "T4.8", "20.6");
        says("exact splits of small ones,", "22.15", "22.16");
        says("separators, volumes, all counted anew from the arcs.", "0.2", "23.5");
        says("==== 1 THE GRAPH: up to 40 NODES,", "2.6", "2.7");
        says("each of a WEIGHT 1 ..", "2.3");
        says("An object is used for at most 512 calls after it has been made; what later calls answer is free.", "0.1");
    }

    private void face() {
        silent("## The public face ```java");
        says("public final class BalancedSplits {", "FaceTest");
        says("public static final int BAD = -1, NONE = -2, FULL = -3, TURN = -4;", "FaceTest", "1.9");
        says("public BalancedSplits();", "FaceTest");
        for (String call : List.of("node(int weight)", "arc(int a, int b, int weight)", "parts(int k)",
                "bound(int part, int least, int most)", "put(int node, int part)", "clear()",
                "of(int node, int what)", "between(int a, int b)", "part(int part, int what)", "cut()", "over()",
                "gain(int node, int part)", "level(int l, int what)", "inLevel(int l, int node)",
                "levelOf(int l, int node, int what)", "run()", "refine()", "grow()",
                "stream(int seed, int alpha)", "order(int seed, int i)", "exact()", "separator(int i)",
                "count(int what)")) {
            says("public int " + call + ";", "FaceTest");
        }
        silent("} ```");
    }

    private void graph() {
        silent("## Terms");
        says("1000;", "2.4");
        says("ARCS between two unlike ones,", "3.3");
        says("of a WEIGHT 1 .. 1000;", "3.4", "3.5");
        says("one told again adds to it", "3.2");
        says("(1000000 at most).", "3.9", "3.10");
        says("PARTS 0 .. K - 1", "4.4");
        says("(K 2 .. 4),", "4.2", "4.3");
        says("each with BOUNDS, least and most", "5.1", "10.7");
        says("(0 .. 1000000).", "5.2", "5.3");
        says("A SPLIT gives each NODE a PART.", "T1.1");
        says("CUT: the sum of ARCS between NODES of unlike PARTS.", "11.1", "11.2", "11.3", "11.5");
        says("OVER: the sum, over PARTS,", "12.3");
        says("of how far the sum of its NODES' WEIGHTS is below least", "12.1", "12.4", "12.6");
        says("or above most.", "12.2", "12.6");
        says("It FITS, if OVER is 0.", "17.3", "22.5");
        says("The GAIN of a NODE for another PART: by how much CUT would be less, if it were there.",
                "13.2", "13.3", "13.7");
        says("Its VOLUME: how many PARTS", "8.7", "8.9");
        says("but its own", "8.6");
        says("its neighbours (by ARCS) are in.", "8.8", "8.14");
    }

    private void levels() {
        says("==== 2 LEVELS. LEVEL 0 is THE GRAPH.", "T2.1", "T2.24", "T2.25");
        says("The next one is made of a LEVEL with more than 6 NODES:", "T2.2", "T2.3", "T2.4", "T2.5");
        says("these are gone through by rising number;", "T2.8");
        says("one that is not joined yet is joined", "T2.9");
        says("with that of its neighbours,", "T2.6");
        says("not joined yet,", "T2.10", "T2.27");
        says("whose ARC is the heaviest", "T2.11");
        says("(of like ones the one of less WEIGHT,", "T2.12", "T2.28");
        says("then of the lesser number),", "T2.13");
        says("of those with which its WEIGHT does not go beyond LIMIT:", "T2.14", "T2.15", "T2.16");
        says("the sum of all WEIGHTS", "T2.19");
        says("/ (2 K),", "T2.18", "T2.26");
        says("rounded down.", "T2.17");
        says("NODES of the next LEVEL are numbered by the least number that they are made of,", "T2.20");
        says("with the sum of WEIGHTS;", "T2.21");
        says("ARCS between them likewise", "T2.22");
        says("(none within one).", "T2.23");
        says("If none is joined, there is no next LEVEL.", "T2.6", "T2.7");
    }

    private void firstSplit() {
        says("==== 3 RUN: on the last LEVEL, if it has 6 NODES or fewer:", "T3.1", "T3.3");
        says("of all SPLITS", "17.12");
        says("that with the least OVER,", "T3.5", "17.9", "17.10");
        says("of these with the least CUT,", "T3.6");
        says("of these the first (NODES in order, the first one's PART changing slowest).", "T3.7");
        says("Else GROWING:", "T3.2", "T3.4", "17.11");
        says("NODES by falling WEIGHT", "T3.8");
        says("(of like ones by number),", "T3.9");
        says("each goes to the PART for which most less the sum of those there is greatest", "T3.10", "T3.12");
        says("(the first of like ones).", "T3.11");
        silent("```text");
        says("Then MOVES there,", "T3.13");
        says("and LEVEL by LEVEL upwards:", "T3.15");
        says("each NODE has the PART of the one that it is in below,", "T3.14", "T3.35");
        says("then MOVES.", "T3.15", "T3.16");
    }

    private void moves() {
        says("MOVES are PASSES, up to 8,", "T3.17", "T3.18");
        says("while one makes it better", "T3.21", "18.4");
        says("(OVER less,", "T3.19");
        says("or OVER the same and CUT less).", "T3.20");
        says("A PASS: all NODES are free.", "T3.22", "T3.36");
        says("Of all free NODES and PARTS but theirs,", "T3.23");
        says("of those MOVES by which OVER does not grow,", "T3.24", "T3.25");
        says("that with the least OVER behind it,", "T3.26");
        says("of these with the greatest GAIN,", "T3.27");
        says("then the least NODE,", "T3.28");
        says("the least PART,", "T3.29");
        says("is done,", "T3.27", "T3.38");
        says("and the NODE is free no more;", "T3.30");
        says("on and on, till there is none.", "T3.31", "T3.38");
        says("Then it goes back to where it was best in the PASS", "T3.32", "T3.37");
        says("(its beginning too;", "T3.33");
        says("the first of like ones).", "T3.34");
        silent("```");
    }

    private void stream() {
        says("==== 4 STREAM: NODES in an order,", "20.5", "20.6");
        says("each to that PART of those that have room for it", "T4.3", "T4.11");
        says("(the sum there with it is not above most)", "T4.1", "T4.2");
        says("for which 1000 times the sum of its ARCS to NODES there", "T4.4", "T4.8");
        says("less ALPHA times the sum of WEIGHTS there", "T4.5", "20.7");
        says("is greatest,", "T4.5", "T4.6");
        says("the least of like ones;", "T4.7");
        says("if none has room, the PART with the least sum", "T4.9");
        says("(the least of like ones).", "T4.10");
        says("ORDER: by seed,", "T4.17", "21.6");
        says("x becomes x * 1103515245 + 12345 (32 bits);", "T4.12");
        says("from all NODES in order", "T4.16");
        says("the one at place (bits 16 to 30)", "T4.13", "T4.14");
        says("modulo how many are left", "T4.15");
        says("comes next, and goes from there.", "T4.16", "21.4");
    }

    private void separator() {
        silent("```text");
        says("SEPARATOR of a SPLIT:", "23.5");
        says("while some ARC between unlike PARTS", "T4.18");
        says("has neither end in it,", "T4.22", "T4.26");
        says("the NODE that ends most such ARCS comes to it", "T4.19", "T4.22");
        says("(of like ones that of less WEIGHT,", "T4.20");
        says("then the least).", "T4.21");
        says("Then, by falling number,", "T4.24", "T4.25");
        says("each goes out again, if all such ARCS have an end in it all the same.", "T4.23", "T4.25");
        silent("```");
        silent("Ahead of the calls `of`, `between`, `part`, `cut`, `over`, `gain` the interface says: "
                + "---- what a split is.");
        silent("Ahead of the calls `level`, `inLevel`, `levelOf` the interface says: ---- levels.");
        silent("Ahead of the calls `run`, `refine`, `grow`, `stream`, `order`, `exact`, `separator`, `count` "
                + "the interface says: ---- splits that are made.");
    }

    private void told() {
        silent("## Promise 1: A new object `BalancedSplits()`:");
        says("No NODES,", "1.1", "1.2", "1.3", "1.4", "1.10");
        says("K 2,", "1.5");
        says("BOUNDS 0 .. 1000000,", "1.6", "1.7");
        says("ALPHA 0.", "1.8");
        silent("## Promise 2: node `int node(int weight)`:");
        says("A NODE more,", "2.10");
        says("in PART 0:", "2.1");
        says("its number.", "2.2");
        says("BAD;", "2.3", "2.4", "2.5", "2.9");
        says("FULL.", "2.7", "2.8");
        silent("## Promise 3: arc `int arc(int a, int b, int weight)`:");
        says("An ARC of a WEIGHT:", "3.12");
        says("what it has then.", "3.1");
        says("BAD;", "3.3", "3.4", "3.5", "3.6", "3.7", "3.8");
        says("FULL: above 1000000.", "3.9", "3.10", "3.11");
    }

    private void changed() {
        silent("## Promise 4: parts `int parts(int k)`:");
        says("K from now on;", "4.4", "4.8", "24.4");
        says("all NODES are in PART 0,", "4.5", "4.10");
        says("all BOUNDS as at first:", "4.6", "4.7");
        says("K before.", "4.1");
        says("BAD.", "4.2", "4.3", "4.9");
        silent("## Promise 5: bound `int bound(int part, int least, int most)`:");
        says("BOUNDS of a PART:", "5.1", "5.8", "5.9", "5.10");
        says("0.", "5.1");
        says("BAD", "5.2", "5.3", "5.6", "5.7");
        says("(also least above most).", "5.4", "5.5");
        silent("## Promise 6: put `int put(int node, int part)`:");
        says("A NODE comes to a PART:", "6.5", "6.6");
        says("the one before.", "6.1");
        says("BAD.", "6.2", "6.3", "6.4");
        silent("## Promise 7: clear `int clear()`:");
        says("All goes:", "7.2", "7.3");
        says("how many NODES there were.", "7.1");
        says("(As a new object.)", "7.4", "7.5", "7.6", "7.7", "7.8", "7.9");
    }

    private void tellings() {
        silent("## Promise 8: of `int of(int node, int what)`:");
        says("WEIGHT of a NODE (what = 0),", "8.4", "8.14");
        says("its PART (1),", "8.5", "8.14");
        says("VOLUME (2),", "8.9", "8.14");
        says("how many neighbours (3).", "8.10", "8.11", "8.12", "8.14");
        says("BAD.", "8.1", "8.2", "8.3", "8.13", "8.15");
        silent("## Promise 9: between `int between(int a, int b)`:");
        says("The WEIGHT of the ARC between two NODES;", "9.4", "9.5");
        says("0 without one.", "9.1");
        says("BAD: no such NODE.", "9.2", "9.3");
        silent("## Promise 10: part `int part(int part, int what)`:");
        says("The sum of WEIGHTS in a PART (what = 0),", "10.4", "10.7");
        says("how many NODES (1),", "10.5", "10.7");
        says("least (2), most (3).", "10.6");
        says("BAD.", "10.1", "10.2", "10.3");
        silent("## Promise 11: cut `int cut()`:");
        says("CUT.", "11.3", "11.4", "11.5");
        silent("## Promise 12: over `int over()`:");
        says("OVER.", "12.5", "12.6");
        silent("## Promise 13: gain `int gain(int node, int part)`:");
        says("The GAIN of a NODE for a PART", "13.2", "13.6", "13.7");
        says("(0 for its own).", "13.1");
        says("BAD: - 100000000.", "13.4", "13.5");
    }

    private void levelCalls() {
        silent("## Promise 14: level `int level(int l, int what)`:");
        says("Of LEVEL l (0 the first):", "14.1", "14.8");
        says("how many NODES (what = 0),", "14.7", "14.8");
        says("ARCS (1),", "14.8");
        says("the sum of these (2);", "14.8");
        says("of none such NONE.", "14.2");
        says("BAD (looked at first):", "14.6");
        says("l below 0, what.", "14.3", "14.4", "14.5");
        silent("## Promise 15: inLevel `int inLevel(int l, int node)`:");
        says("The NODE of LEVEL l in which a NODE of THE GRAPH is.", "15.1", "15.2", "15.6");
        says("BAD", "15.5");
        says("(also no such LEVEL).", "15.3", "15.4");
        silent("## Promise 16: levelOf `int levelOf(int l, int node, int what)`:");
        says("WEIGHT of a NODE of LEVEL l (what = -1),", "16.1");
        says("or the WEIGHT of its ARC to NODE what there;", "16.9");
        says("0 without one.", "16.2");
        says("BAD: no such LEVEL,", "16.3", "16.4");
        says("NODE.", "16.5", "16.6", "16.7", "16.8");
    }

    private void made() {
        silent("## Promise 17: run `int run()`:");
        says("RUN:", "17.6", "17.7", "17.8");
        says("CUT,", "17.1", "17.2", "17.7");
        says("or - 10 less OVER if it does not FIT.", "17.3", "17.4", "17.5");
        silent("## Promise 18: refine `int refine()`:");
        says("MOVES of the SPLIT as it is,", "18.2", "18.5");
        says("on THE GRAPH alone:", "18.3");
        says("how many PASSES made it better.", "18.1", "18.4");
        silent("## Promise 19: grow `int grow()`:");
        says("GROWING", "19.1", "19.4", "19.5");
        says("on THE GRAPH alone:", "19.2");
        says("CUT.", "19.3", "19.5");
    }

    private void madeBySeed() {
        silent("## Promise 20: stream `int stream(int seed, int alpha)`:");
        says("STREAM in the ORDER of a seed,", "20.5", "20.6", "20.7");
        says("with ALPHA 0 .. 1000:", "20.1", "20.2");
        says("CUT.", "20.4", "20.7");
        says("BAD.", "20.1", "20.2", "20.3");
        silent("## Promise 21: order `int order(int seed, int i)`:");
        says("NODE i of the ORDER of a seed;", "21.1", "21.4", "21.5", "21.6");
        says("NONE.", "21.2", "21.3");
    }

    private void exactAndCounts() {
        silent("## Promise 22: exact `int exact()`:");
        says("The SPLIT", "22.15");
        says("with the least OVER,", "22.1");
        says("then CUT,", "22.2");
        says("the first of like ones,", "22.3");
        says("of all:", "22.6", "22.16");
        says("CUT,", "22.4");
        says("or - 10 less OVER.", "22.5", "22.6");
        says("TURN: there are more than 60000",
                "22.7", "22.8", "22.9", "22.10", "22.11", "22.12", "22.13");
        says("(nothing is done).", "22.14");
        silent("## Promise 23: separator `int separator(int i)`:");
        says("NODE i of the SEPARATOR, rising;", "23.4", "23.5");
        says("NONE.", "23.1", "23.2", "23.3");
        silent("## Promise 24: count `int count(int what)`:");
        says("How many NODES (0),", "24.3", "24.9");
        says("K (1),", "24.4", "24.9");
        says("ARCS (2),", "24.5", "24.9", "24.10");
        says("LEVELS (3),", "24.6", "24.9");
        says("NODES in the SEPARATOR (4),", "24.7", "24.9", "24.10");
        says("the sum of VOLUMES (5).", "24.8", "24.9", "24.10");
        says("BAD.", "24.1", "24.2");
    }

    private void notPromised() {
        silent("## Not promised");
        silent("How the state is held inside the object is free, as are the speed of each call, the text of "
                + "toString and the behaviour of equals and hashCode.");
        silent("Use of one object from several threads at once is not promised to be safe.");
        silent("Nothing is promised beyond the answers and state changes described above, and nothing about an "
                + "object after its 512th call.");
    }
}
