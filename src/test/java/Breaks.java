import java.util.ArrayList;
import java.util.List;

/**
 * For each test of SentencesTest, one way or more to break its sentence: a place in the class, the text
 * there, and what to write instead. A text that the class no longer has must be changed here with it.
 */
final class Breaks {
    /** The first text at or behind the place is the one that is changed. */
    record Edit(String place, String text, String instead) {
        String applyTo(String source) {
            int from = source.indexOf(place);
            int at = from < 0 ? -1 : source.indexOf(text, from);
            if (at < 0) {
                throw new IllegalStateException("the class has no '" + text + "' behind '" + place + "'");
            }
            return source.substring(0, at) + instead + source.substring(at + text.length());
        }
    }

    record Break(String number, List<Edit> edits) {
        String applyTo(String source) {
            String broken = source;
            for (Edit edit : edits) {
                broken = edit.applyTo(broken);
            }
            return broken;
        }
    }

    private final List<Break> all = new ArrayList<>();

    static List<Break> all() {
        Breaks breaks = new Breaks();
        breaks.newObject();
        breaks.node();
        breaks.arc();
        breaks.parts();
        breaks.bound();
        breaks.putAndClear();
        breaks.of();
        breaks.betweenAndPart();
        breaks.cutOverGain();
        breaks.whichLevels();
        breaks.joining();
        breaks.levelCalls();
        breaks.run();
        breaks.growing();
        breaks.passes();
        breaks.refineAndGrow();
        breaks.exact();
        breaks.stream();
        breaks.order();
        breaks.separator();
        breaks.count();
        breaks.plainGraph();
        breaks.plainTellings();
        breaks.plainLevels();
        breaks.plainRun();
        breaks.plainMoves();
        breaks.plainMade();
        breaks.plainSeparator();
        return breaks.all;
    }

    private void broken(String number, String place, String text, String instead) {
        all.add(new Break(number, List.of(new Edit(place, text, instead))));
    }

    private void newObject() {
        broken("0.1", "public int run()", "public int run() {",
                "private int used = 0; public int run() { used++; if (used > 400) { return BAD; }");
        broken("1.1", "class Graph", "int size = 0;", "int size = 1;");
        broken("1.2", "public int gain(", "!top.graph.has(node) || ", "");
        broken("1.3", "private boolean hasLevel", "l < levels.count", "l < levels.count && top.graph.size > 0");
        broken("1.4", "public int order(", "!top.graph.has(i)", "i < 0 || i > top.graph.size");
        broken("1.5", "class Bounds", "int k = MIN_PARTS;", "int k = 3;");
        broken("1.6", "class Bounds", "least = new int[MAX_PARTS];", "least = {0, 1, 0, 0};");
        broken("1.7", "class Bounds", "{MAX_BOUND, MAX_BOUND,", "{MAX_BOUND, MAX_BOUND - 1,");
        broken("1.8", "public int stream(", "orders.row, alpha", "orders.row, Math.max(1, alpha)");
        broken("1.9", "public final class", "BAD = -1", "BAD = -5");
        broken("1.9", "public final class", "NONE = -2", "NONE = -5");
        broken("1.9", "public final class", "FULL = -3", "FULL = -5");
        broken("1.9", "public final class", "TURN = -4", "TURN = -5");
    }

    private void node() {
        String at = "public int node(";
        broken("2.1", at, "top.home[number] = 0;", "");
        broken("2.2", at, "return number;", "return number + 1;");
        broken("2.3", at, "weight < 1", "weight < 0");
        broken("2.3", at, "weight < 1", "weight < 2");
        broken("2.4", at, "weight > MAX_WEIGHT", "weight > MAX_WEIGHT + 1");
        broken("2.4", at, "weight > MAX_WEIGHT", "weight >= MAX_WEIGHT");
        broken("2.5", at, "return BAD;", "top.home[0] = 0; return BAD;");
        broken("2.6", at, ">= MAX_NODES", ">= MAX_NODES - 1");
        broken("2.7", at, ">= MAX_NODES", "> MAX_NODES");
        broken("2.8", at, "return FULL;", "graph.weight[0] = weight; return FULL;");
        broken("2.9", at, "if (weight", "if (top.graph.size >= MAX_NODES) { return FULL; } if (weight");
    }

    private void arc() {
        String at = "public int arc(";
        broken("3.1", at, "return sum;", "return weight;");
        broken("3.2", "void addArc", "arcs[b * MAX_NODES + a] += more;", "arcs[b * MAX_NODES + a] = more;");
        broken("3.3", at, "a == b || ", "");
        broken("3.4", at, "weight < 1", "weight < 0");
        broken("3.4", at, "weight < 1", "weight < 2");
        broken("3.5", at, "weight > MAX_WEIGHT", "weight > MAX_WEIGHT + 1");
        broken("3.5", at, "weight > MAX_WEIGHT", "weight >= MAX_WEIGHT");
        broken("3.6", at, "!graph.has(a) || ", "");
        broken("3.6", at, "!graph.has(a)", "a < 0 || a >= MAX_NODES");
        broken("3.7", at, "!graph.has(b) || ", "");
        broken("3.7", at, "!graph.has(b)", "b < 0 || b >= MAX_NODES");
        broken("3.8", at, "return BAD;", "if (a == 0 && b == 1) { graph.addArc(a, b, 1); } return BAD;");
        broken("3.9", at, "sum > MAX_ARC", "sum >= MAX_ARC");
        broken("3.10", at, "sum > MAX_ARC", "sum > MAX_ARC + 1");
        broken("3.11", at, "return FULL;", "graph.addArc(a, b, 1); return FULL;");
    }

    private void parts() {
        String at = "public int parts(";
        broken("4.1", at, "return before;", "return k;");
        broken("4.2", at, "k < MIN_PARTS", "k < MIN_PARTS - 1");
        broken("4.2", at, "k < MIN_PARTS", "k <= MIN_PARTS");
        broken("4.3", at, "k > MAX_PARTS", "k > MAX_PARTS + 1");
        broken("4.3", at, "k > MAX_PARTS", "k >= MAX_PARTS");
        broken("4.4", "class Bounds", "part < k", "part <= k");
        broken("4.4", "class Bounds", "part < k", "part < k - 1");
        broken("4.5", "private void startParts", "Arrays.fill(top.home, 0);", "");
        broken("4.6", "void start(", "Arrays.fill(least, 0);", "");
        broken("4.7", "void start(", "Arrays.fill(most, MAX_BOUND);", "");
        broken("4.8", at, "startParts(k);", "if (k != before) { startParts(k); }");
        broken("4.9", at, "return BAD;", "startParts(top.bounds.k); return BAD;");
    }

    private void bound() {
        String at = "public int bound(";
        broken("5.1", at, "return 0;", "return 1;");
        broken("5.1", at, "top.bounds.least[part] = least;", "");
        broken("5.1", at, "top.bounds.most[part] = most;", "Arrays.fill(top.bounds.most, most);");
        broken("5.2", at, "least < 0", "least < -1");
        broken("5.2", at, "least < 0", "least <= 0");
        broken("5.3", at, "most > MAX_BOUND", "most > MAX_BOUND + 1");
        broken("5.3", at, "most > MAX_BOUND", "most >= MAX_BOUND");
        broken("5.4", at, " || least > most", "");
        broken("5.5", at, "least > most", "least >= most");
        broken("5.6", at, "!top.bounds.has(part)", "part < 0 || part >= MAX_PARTS");
        broken("5.6", at, "!top.bounds.has(part)", "part >= top.bounds.k");
        broken("5.7", at, "return BAD;", "if (top.bounds.has(part)) { top.bounds.most[part] = 7; } return BAD;");
        broken("5.8", at, "return 0;", "Arrays.fill(top.home, 0); return 0;");
    }

    private void putAndClear() {
        String put = "public int put(";
        broken("6.1", put, "return before;", "return part;");
        broken("6.2", put, "!top.graph.has(node)", "node < 0 || node >= MAX_NODES");
        broken("6.3", put, "!top.bounds.has(part)", "part < 0 || part >= MAX_PARTS");
        broken("6.4", put, "return BAD;", "top.home[0] = 0; return BAD;");
        broken("6.5", put, "int before", "if (top.bounds.most[part] == 0) { return BAD; } int before");
        String clear = "public int clear(";
        broken("7.1", clear, "return nodes;", "return Math.min(1, nodes);");
        broken("7.2", clear, "top.graph.empty(0);", "top.graph.empty(nodes);");
        broken("7.3", clear, "top.graph.empty(0);", "top.graph.size = 0;");
        broken("7.4", clear, "startParts(MIN_PARTS);", "startParts(top.bounds.k);");
        broken("7.5", clear, "startParts(MIN_PARTS);",
                "top.bounds.k = MIN_PARTS; Arrays.fill(top.home, 0); levels.fresh = false;");
        all.add(new Break("7.6", List.of(
                new Edit("public int node(", "top.home[number] = 0;", ""),
                new Edit("private void startParts", "Arrays.fill(top.home, 0);", ""))));
        broken("7.7", "private void startParts", "levels.fresh = false;", "");
        broken("7.8", clear, "startParts(MIN_PARTS);", "top.bounds.k = MIN_PARTS;");
    }

    private void of() {
        String at = "public int of(";
        broken("8.1", at, "!top.graph.has(node)", "node < 0 || node >= MAX_NODES");
        broken("8.1", at, "!top.graph.has(node)", "node >= top.graph.size");
        broken("8.2", at, "switch (what)", "switch (Math.max(0, what))");
        broken("8.3", at, "switch (what)", "switch (Math.min(3, what))");
        broken("8.4", at, "top.graph.weight[node]", "Math.min(999, top.graph.weight[node])");
        broken("8.5", at, "return top.home[node]", "return Math.min(2, top.home[node])");
        broken("8.6", "int volume(", "p != home[node] && ", "");
        broken("8.7", "int volume(", "found++;", "found += nodesIn(p);");
        broken("8.8", "int volume(", "+ p] > 0", "+ p] >= 0");
        broken("8.8", "int volume(", "+ p] > 0", "+ p] > 1");
        broken("8.9", "int volume(", "p < bounds.k", "p < bounds.k - 1");
        broken("8.10", "int neighbours(", "> 0", ">= 0");
        broken("8.11", "int neighbours(", "> 0", "> 1");
        broken("8.12", at, "return top.graph.neighbours(node);",
                "return Math.min(top.graph.neighbours(node), top.nodesIn(top.home[node]) - 1);");
        broken("8.13", at, "return BAD;", "top.home[0] = 0; return BAD;");
        broken("8.13", "public int order(", "return NONE;", "top.home[0] = 0; return NONE;");
    }

    private void betweenAndPart() {
        String between = "public int between(";
        broken("9.1", between, "return top.graph.arcOf(a, b);",
                "return top.graph.arcOf(a, b) == 0 ? NONE : top.graph.arcOf(a, b);");
        broken("9.2", between, "!top.graph.has(a)", "a < 0 || a >= MAX_NODES");
        broken("9.3", between, "!top.graph.has(b)", "b < 0 || b >= MAX_NODES");
        broken("9.4", "void addArc", "arcs[b * MAX_NODES + a] += more;", "");
        String part = "public int part(";
        broken("10.1", part, "!top.bounds.has(part)", "part < 0 || part >= MAX_PARTS");
        broken("10.2", part, "switch (what)", "switch (Math.max(0, what))");
        broken("10.3", part, "switch (what)", "switch (Math.min(3, what))");
        broken("10.4", "void recount(", "Arrays.fill(sum, 0);", "Arrays.fill(sum, 1);");
        broken("10.5", "int nodesIn(", "graph.size", "graph.size - 1");
        broken("10.6", part, "top.bounds.least[part]", "top.bounds.most[part]");
        broken("10.6", part, "top.bounds.most[part]", "top.bounds.least[part]");
    }

    private void cutOverGain() {
        String links = "void recountLinks(";
        broken("11.1", links, " && home[other] != home[node]", "");
        broken("11.2", links, "home[other] != home[node]", "home[other] + 1 == home[node]");
        broken("11.3", links, "other < node", "other != node");
        broken("11.4", "public int cut(", "return top.cut;", "top.home[0] = 0; return top.cut;");
        broken("12.1", "int miss(", "sum < least[part]", "sum < least[part] - 1");
        broken("12.1", "int miss(", "least[part] - sum;", "least[part] - sum + 1;");
        broken("12.2", "int miss(", "sum > most[part]", "sum > most[part] + 1");
        broken("12.2", "int miss(", "sum > most[part] ? sum - most[part]", "sum >= most[part] ? sum - most[part] + 1");
        String over = "over += bounds.miss(p, sum[p]);";
        broken("12.3", "void recount(", over, "over = Math.max(over, bounds.miss(p, sum[p]));");
        broken("12.4", "void recount(", over, "over += sum[p] == 0 ? 0 : bounds.miss(p, sum[p]);");
        broken("12.5", "void recount(", over, "over = Math.min(1000000, over + bounds.miss(p, sum[p]));");
        String gain = "public int gain(";
        broken("13.1", gain, "return top.gainOf(", "return part == top.home[node] ? BAD_GAIN : top.gainOf(");
        broken("13.2", gain, "return top.gainOf(node, part)", "return Math.max(0, top.gainOf(node, part))");
        broken("13.3", "int gainOf(", "link[node * MAX_PARTS + to] -",
                "link[node * MAX_PARTS + 1] + link[node * MAX_PARTS + 2] -");
        broken("13.4", gain, "!top.graph.has(node)", "node < 0 || node >= MAX_NODES");
        broken("13.5", gain, "!top.bounds.has(part)", "part < 0 || part >= MAX_PARTS");
        broken("13.6", gain, "return top.gainOf(", "top.shift(node, part); return top.gainOf(");
    }

    private void whichLevels() {
        String small = "size[l - 1] <= SMALL";
        broken("T2.1", "void renew(", "holders[node] = node;", "holders[node] = graph.size - 1 - node;");
        broken("T2.2", "boolean makeLevel(", small, "size[l - 1] < SMALL");
        broken("T2.3", "boolean makeLevel(", small, "size[l - 1] <= SMALL + 1");
        broken("T2.4", "boolean makeLevel(", small, "size[l - 1] <= SMALL && l == 1");
        broken("T2.5", "boolean makeLevel(", small, "size[l - 1] <= SMALL || l > 1");
        broken("T2.6", "boolean joinAll(", "return any;", "return true;");
        broken("T2.7", "boolean joinAll(", "return any;", "return true;");
        broken("T2.20", "int numberJoined(", "mate[node] > node", "mate[node] < node");
        broken("T2.21", "void drawInto(", "+= graph.weight[a]", "= graph.weight[a]");
        broken("T2.22", "void drawInto(", "graph.arcOf(a, b)", "graph.arcOf(a, b) - drawn.arcOf(holderA, holderB)");
        broken("T2.23", "void drawInto(", "holderA != holderB", "holderA >= 0");
        broken("T2.24", "public int node(", "levels.fresh = false;", "");
        broken("T2.25", "public int arc(", "levels.fresh = false;", "");
        broken("T2.26", "public int bound(", "return 0;", "levels.count = 1; return 0;");
        broken("T2.26", "public int put(", "return before;", "levels.count = 1; return before;");
    }

    private void joining() {
        String mate = "int bestMate(";
        broken("T2.8", "boolean joinAll(", "for (int node = 0; node < graph.size; node++)",
                "for (int node = graph.size - 1; node >= 0; node--)");
        broken("T2.9", "boolean joinAll(", "mate[node] == NOWHERE ? bestMate(graph, node, total, 2 * k) : NOWHERE",
                "bestMate(graph, node, total, 2 * k)");
        broken("T2.10", mate, "mate[other] == NOWHERE ? graph.arcOf(node, other) : 0", "graph.arcOf(node, other)");
        broken("T2.11", mate, "arc > bestArc ||", "arc > 0 && bestArc == 0 ||");
        broken("T2.12", mate, "weight < bestWeight", "weight > bestWeight");
        broken("T2.13", mate, "weight < bestWeight", "weight <= bestWeight");
        broken("T2.14", mate, "if (light && liked) {", "if (liked && !light) { best = NOWHERE; bestArc = arc; "
                + "bestWeight = weight; } else if (liked) {");
        broken("T2.15", mate, "<= total", "< total");
        broken("T2.16", mate, "<= total", "<= total + shares");
        broken("T2.17", mate, "<= total", "<= total + shares - 1");
        broken("T2.17", mate, "<= total", "<= total + shares / 2");
        broken("T2.18", "boolean joinAll(", "2 * k", "4");
        broken("T2.18", "boolean joinAll(", "2 * k", "2 + k");
        broken("T2.19", "int total(", "sum += weight[i];", "sum += neighbours(i) > 0 ? weight[i] : 0;");
    }

    private void levelCalls() {
        String level = "public int level(";
        broken("14.1", level, "levels.drawInto(l,", "levels.drawInto(levels.count - 1,");
        broken("14.2", "boolean hasLevel(", "l < levels.count", "l <= levels.count");
        broken("14.2", "boolean hasLevel(", "l < levels.count", "l < levels.count - 1");
        broken("14.3", level, "l < 0 || ", "");
        broken("14.4", level, "what < 0 || ", "");
        broken("14.5", level, "what > 2", "what > 3");
        broken("14.6", level, "if (l < 0", "if (l >= 0 && !hasLevel(l)) { return NONE; } if (l < 0");
        broken("14.7", "MAX_LEVELS", "MAX_LEVELS = 40", "MAX_LEVELS = 34");
        String in = "public int inLevel(";
        broken("15.1", in, "levels.holder(l,", "levels.holder(Math.max(1, l),");
        broken("15.2", in, "!hasLevel(l)", "!hasLevel(l) || node >= levels.size[l]");
        broken("15.3", "boolean hasLevel(", "l >= 0 && ", "");
        broken("15.4", "boolean hasLevel(", "l < levels.count", "l <= levels.count");
        broken("15.5", in, "!top.graph.has(node)", "node < 0 || node >= MAX_NODES");
        String of = "public int levelOf(";
        broken("16.1", of, "low.graph.weight[node]", "top.graph.weight[node]");
        broken("16.2", of, "low.graph.has(what) ?", "low.graph.has(what) && low.graph.arcOf(node, what) > 0 ?");
        broken("16.3", "boolean hasLevel(", "l >= 0 && ", "");
        broken("16.4", "boolean hasLevel(", "l < levels.count", "l <= levels.count");
        broken("16.5", of, "!low.graph.has(node)", "!top.graph.has(node)");
        broken("16.6", of, "!low.graph.has(node)", "node < 0 || node >= MAX_NODES");
        broken("16.7", of, "low.graph.has(what) ?", "top.graph.has(what) ?");
        broken("16.8", of, "what == -1", "what < 0");
    }

    private void run() {
        String run = "public int run(";
        String miss = "int cutOrMiss(";
        broken("17.1", miss, "top.over == 0 ?", "top.over == 0 && top.cut > 0 ?");
        broken("17.2", miss, "? top.cut :", "? 0 :");
        broken("17.3", miss, "top.over == 0 ?", "top.over <= 1 ?");
        broken("17.3", "NO_FIT", "NO_FIT = -10", "NO_FIT = -11");
        broken("17.4", run, "levels.renew(", "if (top.graph.size == 0) { return 0; } levels.renew(");
        broken("17.5", miss, "NO_FIT - top.over", "Math.max(-1000000, NO_FIT - top.over)");
        broken("17.5", miss, "NO_FIT - top.over", "(short) (NO_FIT - top.over)");
        broken("17.6", run, "if (l == last)", "if (l == last && top.over != 0)");
        String first = "void splitFirst(";
        broken("T3.1", first, "low.graph.size <= SMALL", "low.graph.size < SMALL");
        broken("T3.2", first, "low.graph.size <= SMALL", "low.graph.size <= SMALL + 1");
        broken("T3.3", first, "low.graph.size <= SMALL", "top.graph.size <= SMALL");
        broken("T3.4", run, "int last = levels.count - 1;", "int last = 0;");
        String search = "void tryFrom(";
        String best = "floor > bestOver || floor == bestOver && cut >= bestCut";
        broken("T3.5", search, best, "cut > bestCut || cut == bestCut && floor >= bestOver");
        broken("T3.6", search, best, "floor >= bestOver");
        broken("T3.7", search, "cut >= bestCut", "cut > bestCut");
        broken("T3.7", search, "for (int p = 0; p < split.bounds.k; p++)",
                "for (int p = split.bounds.k - 1; p >= 0; p--)");
        broken("T3.13", run, "mover.doMoves(low);", "if (l != last) { mover.doMoves(low); }");
        broken("T3.14", run, "levels.bringDown(l, top.home, low.home, top.graph.size);", "");
        broken("T3.15", run, "mover.doMoves(low);", "if (l == 0 || l == last) { mover.doMoves(low); }");
        broken("T3.16", run, "mover.doMoves(low);", "if (l != 0) { mover.doMoves(low); }");
    }

    private void growing() {
        String heaviest = "int heaviestOutside(";
        String roomiest = "int roomiestPart(";
        String room = "bounds.most[p] - sum[p] > bounds.most[best] - sum[best]";
        broken("T3.8", heaviest, "graph.weight[node] > bestWeight", "bestWeight == 0");
        broken("T3.9", heaviest, "graph.weight[node] > bestWeight", "graph.weight[node] >= bestWeight");
        broken("T3.10", roomiest, room, "sum[p] < sum[best]");
        broken("T3.11", roomiest, room, "bounds.most[p] - sum[p] >= bounds.most[best] - sum[best]");
        broken("T3.12", roomiest, room,
                "Math.max(0, bounds.most[p] - sum[p]) > Math.max(0, bounds.most[best] - sum[best])");
    }

    private void passes() {
        String pass = "boolean doPass(";
        String better = "boolean isBetter(";
        String next = "boolean findNext(";
        String weigh = "void weigh(";
        broken("T3.17", "MAX_PASSES", "MAX_PASSES = 8", "MAX_PASSES = 7");
        broken("T3.18", "MAX_PASSES", "MAX_PASSES = 8", "MAX_PASSES = 9");
        broken("T3.19", better, "split.over < bestOver ||", "split.over < bestOver && split.cut <= bestCut ||");
        broken("T3.20", better, "split.over == bestOver &&", "split.over == 0 && bestOver == 0 &&");
        broken("T3.21", better, "split.cut < bestCut", "split.cut <= bestCut");
        broken("T3.22", pass, "free[node] = true;", "free[node] = free[node] || bestCut == 0;");
        broken("T3.23", next, "p != split.home[node]", "p >= 0");
        broken("T3.24", next, "nextOver = split.over;", "nextOver = WORST;");
        broken("T3.25", weigh, "over == nextOver && liked", "over == nextOver && nextNode != NOWHERE && liked");
        broken("T3.26", weigh, "over < nextOver || over == nextOver && liked", "over <= split.over && liked");
        broken("T3.27", weigh, " || gain > nextGain", "");
        broken("T3.28", next, "for (int node = 0; node < split.graph.size; node++)",
                "for (int node = split.graph.size - 1; node >= 0; node--)");
        broken("T3.29", next, "for (int p = 0; free[node] && p < split.bounds.k; p++)",
                "for (int p = split.bounds.k - 1; free[node] && p >= 0; p--)");
        broken("T3.30", pass, "free[nextNode] = false;", "");
        broken("T3.31", pass, "free[nextNode] = false;", "free[nextNode] = false; if (nextGain < 0) { break; }");
        broken("T3.32", pass, "System.arraycopy(best, 0, split.home, 0, MAX_NODES);", "");
        broken("T3.33", pass, "keepBest(split);", "keepBest(split); bestOver = WORST;");
        broken("T3.34", better, "split.cut < bestCut", "split.cut <= bestCut");
    }

    private void refineAndGrow() {
        broken("18.1", "int doMoves(", "return better;", "return better + 1;");
        broken("18.2", "public int refine(", "return mover", "run(); return mover");
        String grow = "public int grow(";
        broken("19.1", grow, "top.growAll();", "top.growAll(); mover.doMoves(top);");
        broken("19.2", grow, "top.growAll();", "hasLevel(0); int last = levels.count - 1; "
                + "levels.drawInto(last, top.graph, low.graph); low.bounds.copyOf(top.bounds); low.growAll(); "
                + "levels.bringUp(last, low.home, top.home, top.graph.size);");
        broken("19.3", grow, "return top.cut;", "return cutOrMiss();");
        broken("19.4", "void growAll(", "takeAllOut();", "Arrays.fill(home, NOWHERE);");
    }

    private void exact() {
        String exact = "public int exact(";
        String search = "void tryFrom(";
        String best = "floor > bestOver || floor == bestOver && cut >= bestCut";
        broken("22.1", search, best, "cut > bestCut || cut == bestCut && floor >= bestOver");
        broken("22.2", search, best, "floor >= bestOver");
        broken("22.3", search, "cut >= bestCut", "cut > bestCut");
        broken("22.4", exact, "return cutOrMiss();", "return Math.min(0, cutOrMiss());");
        broken("22.5", exact, "return cutOrMiss();", "cutOrMiss(); return top.cut;");
        broken("22.6", exact, "if (", "if (top.graph.size == 0) { return 0; } if (");
        String splits = "MAX_SPLITS = 60000";
        broken("22.7", "MAX_SPLITS", splits, "MAX_SPLITS = 32767");
        broken("22.8", "MAX_SPLITS", splits, "MAX_SPLITS = 65536");
        broken("22.9", "MAX_SPLITS", splits, "MAX_SPLITS = 59048");
        broken("22.10", "MAX_SPLITS", splits, "MAX_SPLITS = 177147");
        broken("22.11", "MAX_SPLITS", splits, "MAX_SPLITS = 16383");
        broken("22.12", "MAX_SPLITS", splits, "MAX_SPLITS = 65536");
        broken("22.13", "boolean hasTooManySplits(", " && splits <= MAX_SPLITS", "");
        broken("22.14", exact, "return TURN;", "Arrays.fill(top.home, 0); return TURN;");
    }

    private void stream() {
        String stream = "public int stream(";
        String all = "void streamAll(";
        String liked = "int likedPart(";
        broken("20.1", stream, "alpha < 0", "alpha < -1");
        broken("20.1", stream, "alpha < 0", "alpha <= 0");
        broken("20.2", stream, "alpha > MAX_ALPHA", "alpha > MAX_ALPHA + 1");
        broken("20.2", stream, "alpha > MAX_ALPHA", "alpha >= MAX_ALPHA");
        broken("20.3", stream, "return BAD;", "Arrays.fill(top.home, 0); return BAD;");
        broken("20.4", stream, "return top.cut;", "return cutOrMiss();");
        broken("20.5", all, "int node = row[i];", "int node = i;");
        broken("T4.1", liked, "<= bounds.most[p]", "< bounds.most[p]");
        broken("T4.2", liked, "<= bounds.most[p]", "<= bounds.most[p] + 1");
        broken("T4.3", liked, "<= bounds.most[p]", "<= bounds.most[p] || arcsInto(node, p) > 0");
        broken("T4.4", liked, "1000L", "999L");
        broken("T4.5", liked, "(long) alpha * sum[p]", "(alpha - 1L) * sum[p]");
        broken("T4.6", liked, "best == NOWHERE || ", "");
        broken("T4.7", liked, "worth > bestWorth", "worth >= bestWorth");
        broken("T4.8", all, "takeAllOut();", "Arrays.fill(sum, 0);");
        broken("T4.9", all, "lightestPart()", "bounds.k - 1");
        broken("T4.10", "int lightestPart(", "sum[p] < sum[best]", "sum[p] <= sum[best]");
        broken("T4.11", liked, "worth > bestWorth", "worth > bestWorth || sum[p] < bounds.least[p]");
    }

    private void order() {
        String order = "public int order(";
        String draw = "void draw(";
        String close = "System.arraycopy(waiting, place + 1, waiting, place, left - 1 - place);";
        broken("21.1", order, "orders.row[i]", "orders.row[top.graph.size - 1 - i]");
        broken("21.2", order, "!top.graph.has(i)", "i < 0 || i >= MAX_NODES");
        broken("21.3", order, "!top.graph.has(i)", "i >= top.graph.size");
        broken("21.4", draw, close, "");
        broken("21.5", order, "!top.graph.has(i)", "!top.graph.has(i) || top.graph.size < 2");
        broken("T4.12", draw, "x = x * 1103515245 + 12345;", "x = (int) ((x * 1103515245L + 12345) % 2147483647L);");
        broken("T4.13", draw, "0x7fff", "0xffff");
        broken("T4.14", draw, ">>> 16", ">>> 15");
        broken("T4.15", draw, "% left", "% nodes");
        broken("T4.16", draw, close, "waiting[place] = waiting[left - 1];");
        broken("T4.17", draw, "int x = seed;", "int x = Math.abs(seed);");
    }

    private void separator() {
        String cut = "boolean isCut(";
        String find = "void find(";
        broken("23.1", cut, " && split.home[a] != split.home[b]", "");
        broken("23.2", "int nodeAt(", "return NONE;", "return BAD;");
        broken("23.3", "int nodeAt(", "place == i", "place >= i");
        broken("23.4", "int nodeAt(", "for (int node = 0; node < nodes; node++)",
                "for (int node = nodes - 1; node >= 0; node--)");
        broken("T4.18", cut, " && split.home[a] != split.home[b]", "");
        broken("T4.19", "void start(Split", "open[a]++;", "open[a] += split.graph.arcOf(a, b);");
        broken("T4.20", "int busiest(", "&& lighter", "&& false");
        broken("T4.21", "int busiest(", "graph.weight[node] < graph.weight[best]",
                "graph.weight[node] <= graph.weight[best]");
        broken("T4.22", "void takeIn(", "open[other]--;", "");
        broken("T4.23", find, "inside[node] && isNeeded(split, node)", "inside[node]");
        broken("T4.24", find, "for (int node = nodes - 1; node >= 0; node--)",
                "for (int node = 0; node < nodes; node++)");
    }

    private void count() {
        String at = "public int count(";
        broken("24.1", at, "switch (what)", "switch (Math.max(0, what))");
        broken("24.2", at, "switch (what)", "switch (Math.min(5, what))");
        broken("24.3", at, "return top.graph.size;", "return Math.min(39, top.graph.size);");
        broken("24.4", at, "return top.bounds.k;", "return Math.min(3, top.bounds.k);");
        broken("24.5", "int arcCount(", "ends >> 1", "ends");
        broken("24.6", at, "return levels.count;", "return levels.count - 1;");
        broken("24.7", at, "return divider.held();", "return Math.min(19, divider.held());");
        broken("24.8", "int volumes(", "all += volume(node);", "all = Math.max(all, volume(node));");
    }

    private void plainGraph() {
        broken("0.2", "public int cut(", "top.recount();", "if (top.cut == 0) { top.recount(); }");
        broken("1.10", "private final Split top", "private final Split top", "private static final Split top");
        broken("2.10", "public int node(", "graph.weight[number] = weight;", "graph.weight[number] = 1;");
        broken("2.10", "public int node(", "top.home[number] = 0;", "Arrays.fill(top.home, 0);");
        broken("2.10", "public int node(", "return number;", "top.bounds.start(top.bounds.k); return number;");
        broken("3.12", "int arcOf(", "arcs[a * MAX_NODES + b]", "arcs[(a & 3) * MAX_NODES + b]");
        broken("3.12", "public int arc(", "return sum;", "Arrays.fill(top.home, 0); return sum;");
        broken("3.12", "public int arc(", "return sum;", "graph.weight[a]++; return sum;");
        broken("4.10", "public int parts(", "startParts(k);", "startParts(k); top.graph.empty(top.graph.size);");
        broken("5.9", "public int bound(", "least[part] = least",
                "least[part] = Math.max(top.bounds.least[part], least)");
        broken("5.9", "public int bound(", "most[part] = most",
                "most[part] = Math.min(top.bounds.most[part], most)");
        broken("5.10", "public int bound(", "return 0;", "top.graph.weight[0] = most; return 0;");
        broken("5.10", "public int bound(", "return 0;", "top.home[0] = part == 1 ? 0 : 1; return 0;");
        broken("6.6", "public int put(", "top.home[node] = part;", "");
        broken("6.6", "public int put(", "top.home[node] = part;", "Arrays.fill(top.home, part);");
        broken("7.9", "public int clear(", "top.graph.empty(0);", "top.graph.size = 0;");
    }

    private void plainTellings() {
        String of = "public int of(";
        broken("8.14", of, "return top.graph.weight[node];", "return top.graph.weight[0];");
        broken("8.14", of, "return top.home[node];", "return top.home[0];");
        broken("8.14", of, "return top.volume(node);", "return top.graph.neighbours(node);");
        broken("8.14", of, "return top.graph.neighbours(node);", "return top.volume(node);");
        broken("8.15", of, "switch (what)", "top.home[node] = 0; switch (what)");
        broken("8.15", "public int between(", "return top", "top.home[a] = 0; return top");
        broken("8.15", "public int part(", "switch (what)", "top.home[0] = part; switch (what)");
        broken("8.15", "public int inLevel(", "return levels", "top.home[node] = 0; return levels");
        broken("8.15", "public int count(", "switch (what)", "top.home[0] = 0; switch (what)");
        broken("9.5", "public int between(", "return top.graph.arcOf(a, b);", "return top.graph.arcOf(0, b);");
        broken("10.7", "public int part(", "return top.sum[part];", "return top.nodesIn(part);");
        broken("10.7", "public int part(", "return top.nodesIn(part);", "return top.sum[part];");
        broken("11.5", "void recountLinks(", "cut += weight;", "cut += Math.min(1, weight);");
        broken("12.6", "void recount(", "sum[home[node]] += graph.weight[node];", "sum[home[node]]++;");
        broken("13.7", "int gainOf(", "- link[node * MAX_PARTS + home[node]]", "- link[node * MAX_PARTS]");
        broken("13.7", "int gainOf(", " - link[node * MAX_PARTS + home[node]]", "");
    }

    private void plainLevels() {
        String level = "public int level(";
        broken("14.8", level, "return low.graph.size;", "return top.graph.size;");
        broken("14.8", level, "return low.graph.arcCount();", "return low.graph.arcSum();");
        broken("14.8", level, "return low.graph.arcSum();", "return low.graph.arcCount();");
        broken("15.6", "boolean makeLevel(", "number[holder(l - 1, node)]", "number[node]");
        broken("15.6", "public int inLevel(", "levels.holder(l, node)", "levels.holder(levels.count - 1, node)");
        broken("16.9", "public int levelOf(", "low.graph.arcOf(node, what)", "top.graph.arcOf(node, what)");
        broken("T2.27", "boolean joinAll(", "mate[node] = other;", "");
        broken("T2.28", "int bestMate(", "arc > 0 && arc == bestArc", "arc > 1 && arc == bestArc");
    }

    private void plainRun() {
        String run = "public int run(";
        String copy = "void copyOf(";
        broken("T1.1", "void growAll(", "placed < graph.size", "placed < graph.size - 1");
        broken("T1.1", "void streamAll(", "i < graph.size", "i < graph.size - 1");
        broken("17.7", run, "return cutOrMiss();",
                "int told = cutOrMiss(); Arrays.fill(top.home, 0); return told;");
        broken("17.7", "int cutOrMiss(", "top.recount();", "");
        broken("17.8", run, "return cutOrMiss();",
                "int told = cutOrMiss(); top.bounds.start(top.bounds.k); return told;");
        broken("17.8", run, "return cutOrMiss();",
                "int told = cutOrMiss(); top.graph.empty(top.graph.size); return told;");
        broken("17.9", copy, "System.arraycopy(other.least, 0, least, 0, MAX_PARTS);", "");
        broken("17.9", copy, "least, 0, MAX_PARTS)", "least, 0, MAX_PARTS - 1)");
        broken("17.10", copy, "most, 0, MAX_PARTS)", "most, 0, MAX_PARTS - 1)");
        broken("17.11", run, "top.bounds.k", "low.bounds.k");
        broken("17.12", "void findBest(", "bestOver = WORST;", "");
        broken("T3.35", run, "low.home, top.graph.size", "low.home, low.graph.size");
    }

    private void plainMoves() {
        String pass = "boolean doPass(";
        broken("T3.36", pass, "node < MAX_NODES", "node < MAX_NODES - 1");
        broken("T3.37", pass, "split.home, 0, MAX_NODES)", "split.home, 0, MAX_NODES - 1)");
        broken("T3.38", pass, "step < split.graph.size", "step < split.graph.size - 1");
        broken("18.3", "public int refine(", "return mover",
                "hasLevel(0); int last = levels.count - 1; levels.drawInto(last, top.graph, low.graph); "
                + "low.bounds.copyOf(top.bounds); levels.bringDown(last, top.home, low.home, top.graph.size); "
                + "mover.doMoves(low); levels.bringUp(last, low.home, top.home, top.graph.size); return mover");
        broken("18.4", "int doMoves(", "return better;", "return Math.min(1, better);");
        broken("18.4", "int doMoves(", "better < MAX_PASSES", "better < 1");
        broken("18.5", "public int refine(", "return mover", "top.bounds.least[0] = 0; return mover");
        broken("18.5", "public int refine(", "return mover.doMoves(top);",
                "int told = mover.doMoves(top); top.graph.empty(top.graph.size); return told;");
    }

    private void plainMade() {
        String cut = "return top.cut;";
        broken("19.5", "public int grow(", cut, "top.bounds.start(top.bounds.k); return top.cut;");
        broken("19.5", "public int grow(", "top.growAll();", "top.recount(); int told = top.cut; top.growAll(); "
                + "if (told >= 0) { return told; }");
        broken("20.6", "int arcsInto(", "other < graph.size", "other <= graph.size");
        broken("20.7", "public int stream(", cut, "top.bounds.start(top.bounds.k); return top.cut;");
        broken("20.7", "int likedPart(", "(long) alpha * sum[p]", "(long) alpha * nodesIn(p)");
        all.add(new Break("21.6", List.of(
                new Edit("class Order", "private final int[] waiting", "int old = 0; private final int[] waiting"),
                new Edit("void draw(", "int x = seed;", "int x = seed + old;"),
                new Edit("void draw(", "int place", "old = 1; int place"))));
        broken("22.15", "void findBest(", "System.arraycopy(best, 0, split.home, 0, split.graph.size);", "");
        broken("22.15", "public int exact(", "return cutOrMiss();",
                "int told = cutOrMiss(); top.bounds.start(top.bounds.k); return told;");
        broken("22.16", "public int exact(", "search.findBest(top);",
                "if (top.graph.size > SMALL) { return run(); } search.findBest(top);");
    }

    private void plainSeparator() {
        String find = "void find(";
        broken("23.5", "void start(Split", "inside[a] = false;", "");
        broken("T4.25", find, "node = nodes - 1", "node = nodes - 2");
        broken("T4.25", "boolean isNeeded(", "other < nodes", "other <= nodes");
        broken("T4.26", find, "open[node] > 0", "open[node] >= 0");
        broken("24.9", "public int count(", "return top.graph.arcCount();", "return top.graph.arcSum();");
        broken("24.9", "public int count(", "return top.volumes();", "return top.cut;");
        broken("24.9", "public int count(", "return divider.held();", "return top.volumes();");
        broken("24.10", "int arcCount(", "i < size", "i <= size");
        broken("24.10", "int arcSum(", "a < size", "a < size - 2");
        broken("24.10", "int volumes(", "node < graph.size", "node <= graph.size");
    }
}
