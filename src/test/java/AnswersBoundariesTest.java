/** The sentences of promises 10 to 18, the calls that only answer: one test for each boundary case. */
public final class AnswersBoundariesTest {
    private static final int NONE = -1;
    private static final int UNKNOWN = -10001;
    private static final int OUTSIDE = -10002;
    private static final int LOWEST = Integer.MIN_VALUE;
    private static final int HIGHEST = Integer.MAX_VALUE;

    private static final int MARGIN = 0;
    private static final int STEP = 1;
    private static final int DEPTH = 2;

    // Fifteen times this is -1, once it has wrapped around: with node 1 it would be found where tree 0 begins.
    private static final int WRAPS_TO_LESS_THAN_NOUGHT = 286331153;

    private static final Class<ArithmeticException> NO_PAIRS = ArithmeticException.class;

    public static void main(String[] args) throws IllegalAccessException {
        SaidTests.run(AnswersBoundariesTest.class);
    }

    /** Tree 0 parts the two things, tree 1 does not. */
    private static PairedTrees cutAndLeaf() {
        PairedTrees x = Scenes.two();
        x.grow();
        x.grow();
        return x;
    }

    // ---- 10 node

    @Says(where = "Promise 10: node", sentence = "what = 0: 1 if it is CUT, 0 a LEAF")
    static void nodeIsCutOrLeaf(Due due) {
        PairedTrees x = cutAndLeaf();
        due.is("cut", x.node(0, 0, 0), 1);
        due.is("its left leaf", x.node(0, 1, 0), 0);
        due.is("its right leaf", x.node(0, 2, 0), 0);
        due.is("a tree that is a leaf", x.node(1, 0, 0), 0);
    }

    @Says(where = "Promise 10: node", sentence = "1 f, 2 c, 3 SIDE (OUTSIDE: it is a LEAF)")
    static void nodeOfALeafHasNoCut(Due due) {
        PairedTrees x = cutAndLeaf();
        int[] ofCut = {0, 2, 0};
        for (int what = 1; what <= 3; what++) {
            due.is("cut, " + what, x.node(0, 0, what), ofCut[what - 1]);
            due.is("left leaf, " + what, x.node(0, 1, what), OUTSIDE);
            due.is("right leaf, " + what, x.node(0, 2, what), OUTSIDE);
            due.is("a tree that is a leaf, " + what, x.node(1, 0, what), OUTSIDE);
        }
    }

    @Says(where = "Promise 10: node", sentence = "1 f, 2 c, 3 SIDE (OUTSIDE: it is a LEAF)")
    static void nodeCutByTheLast(Due due) {
        PairedTrees x = new PairedTrees();
        x.thing(0, 1);
        x.thing(0, 0);
        x.feature(0, 3, -1);
        x.grow();
        due.is("f", x.node(0, 0, 1), 3);
        due.is("c may be what NONE is", x.node(0, 0, 2), -1);
        due.is("SIDE", x.node(0, 0, 3), 1);
    }

    @Says(where = "Promise 10: node", sentence = "4 VALUE (OUTSIDE: it is CUT)")
    static void nodeThatIsCutHasNoValue(Due due) {
        PairedTrees x = cutAndLeaf();
        due.is("cut", x.node(0, 0, 4), OUTSIDE);
        due.is("left leaf", x.node(0, 1, 4), -20);
        due.is("right leaf", x.node(0, 2, 4), 20);
        due.is("a tree that is a leaf", x.node(1, 0, 4), 0);
    }

    @Says(where = "Promise 10: node", sentence = "5 how many THINGS it held")
    static void nodeHeldThenNotNow(Due due) {
        PairedTrees x = cutAndLeaf();
        x.thing(0, 0);
        x.feature(0, 0, 0);
        due.is("cut", x.node(0, 0, 5), 2);
        due.is("left leaf", x.node(0, 1, 5), 1);
        due.is("right leaf", x.node(0, 2, 5), 1);
        due.is("a tree that is a leaf", x.node(1, 0, 5), 2);
        PairedTrees y = Scenes.full();
        y.grow();
        due.is("the most", y.node(0, 0, 5), 24);
    }

    @Says(where = "Promise 10: node", sentence = "UNKNOWN (also no such NODE)")
    static void nodeOfNoTree(Due due) {
        PairedTrees x = Scenes.two();
        due.is("no tree as yet", x.node(0, 0, 0), UNKNOWN);
        x.grow();
        for (int tree : new int[] {LOWEST, -2, NONE, 1, 19, 20, HIGHEST}) {
            due.is("tree " + tree, x.node(tree, 0, 0), UNKNOWN);
        }
        due.is("a tree that wraps around", x.node(WRAPS_TO_LESS_THAN_NOUGHT, 1, 0), UNKNOWN);
        due.is("tree -1, node 15", x.node(-1, 15, 0), UNKNOWN);
    }

    @Says(where = "Promise 10: node", sentence = "UNKNOWN (also no such NODE)")
    static void nodeOfNoNumber(Due due) {
        PairedTrees x = cutAndLeaf();
        for (int k : new int[] {LOWEST, -15, -1, 3, 4, 14, 15, 16, 30, 1 << 30, HIGHEST}) {
            due.is("tree 0, node " + k, x.node(0, k, 0), UNKNOWN);
            due.is("tree 1, node " + k, x.node(1, k, 0), UNKNOWN);
        }
        due.is("below a leaf at the top, left", x.node(1, 1, 0), UNKNOWN);
        due.is("below a leaf at the top, right", x.node(1, 2, 0), UNKNOWN);
    }

    @Says(where = "Promise 10: node", sentence = "OUTSIDE.")
    static void nodeOfNoWhat(Due due) {
        PairedTrees x = cutAndLeaf();
        for (int what : new int[] {LOWEST, -2, NONE, 6, 7, HIGHEST}) {
            due.is("of a cut, " + what, x.node(0, 0, what), OUTSIDE);
            due.is("of a leaf, " + what, x.node(0, 1, what), OUTSIDE);
        }
    }

    // ---- 11 gain

    @Says(where = "Promise 11: gain",
            sentence = "The GAIN of a NODE's CUT in lowest terms: the upper part (part = 0), the lower one (1).")
    static void gainInLowestTerms(Due due) {
        PairedTrees whole = Scenes.two();
        whole.grow();
        due.is("4 / 1 + 4 / 1 - 0 / 2, upper", whole.gain(0, 0, 0), 8);
        due.is("a whole one's lower", whole.gain(0, 0, 1), 1);
        PairedTrees half = Scenes.three();
        half.grow();
        due.is("9 / 1 + 9 / 2 - 0 / 3, upper", half.gain(0, 0, 0), 27);
        due.is("lower", half.gain(0, 0, 1), 2);
    }

    @Says(where = "Promise 11: gain",
            sentence = "The GAIN of a NODE's CUT in lowest terms: the upper part (part = 0), the lower one (1).")
    static void gainOfTwelveAgainstTwelve(Due due) {
        PairedTrees x = new PairedTrees();
        for (int i = 0; i < 24; i++) {
            x.thing(0, i < 12 ? 4 : 0);
            x.feature(i, 0, i < 12 ? 1 : 0);
        }
        x.grow();
        due.is("576 576 / 12 twice, upper", x.gain(0, 0, 0), 55296);
        due.is("lower", x.gain(0, 0, 1), 1);
    }

    @Says(where = "Promise 11: gain", sentence = "UNKNOWN (also a LEAF)")
    static void gainOfALeaf(Due due) {
        PairedTrees x = cutAndLeaf();
        for (int part = 0; part < 2; part++) {
            due.is("left leaf", x.gain(0, 1, part), UNKNOWN);
            due.is("right leaf", x.gain(0, 2, part), UNKNOWN);
            due.is("a tree that is a leaf", x.gain(1, 0, part), UNKNOWN);
        }
        x.cut();
        x.cut();
        x.miss(0, 0);
        x.miss(1, 0);
        x.grow();
        due.is("a leaf where a cut has been", x.gain(0, 0, 0), UNKNOWN);
    }

    @Says(where = "Promise 11: gain", sentence = "UNKNOWN (also a LEAF)")
    static void gainOfNothing(Due due) {
        PairedTrees x = Scenes.two();
        due.is("no tree as yet", x.gain(0, 0, 0), UNKNOWN);
        x.grow();
        for (int tree : new int[] {LOWEST, -2, NONE, 1, 19, 20, HIGHEST}) {
            due.is("tree " + tree, x.gain(tree, 0, 0), UNKNOWN);
        }
        for (int k : new int[] {LOWEST, -15, -1, 3, 14, 15, 1 << 30, HIGHEST}) {
            due.is("node " + k, x.gain(0, k, 0), UNKNOWN);
        }
        due.is("a tree that wraps around", x.gain(WRAPS_TO_LESS_THAN_NOUGHT, 1, 0), UNKNOWN);
        due.is("tree -1, node 15", x.gain(-1, 15, 0), UNKNOWN);
        x.setting(MARGIN, 1000);
        x.grow();
        due.is("tree 0, node 15, where tree 1 begins", x.gain(0, 15, 0), UNKNOWN);
    }

    @Says(where = "Promise 11: gain", sentence = "OUTSIDE.")
    static void gainOfNoPart(Due due) {
        PairedTrees x = cutAndLeaf();
        for (int part : new int[] {LOWEST, -2, NONE, 2, 3, HIGHEST}) {
            due.is("part " + part, x.gain(0, 0, part), OUTSIDE);
        }
    }

    // ---- 12 score

    @Says(where = "Promise 12: score", sentence = "The SCORE of a THING (NONE: of THE PROBE).")
    static void scoreOfTheProbe(Due due) {
        PairedTrees x = Scenes.two();
        due.is("the probe, no trees", x.score(NONE), 0);
        due.is("a thing, no trees", x.score(1), 0);
        x.grow();
        due.is("the probe misses all: left", x.score(NONE), -20);
        x.feature(NONE, 0, 3);
        due.is("the probe has more than 2: right", x.score(NONE), 20);
        x.clear();
        due.is("the probe, where there are no things", x.score(NONE), 0);
    }

    @Says(where = "Promise 12: score", sentence = "UNKNOWN (which a SCORE may be, too).")
    static void scoreThatIsAsUnknown(Due due) {
        PairedTrees x = new PairedTrees();
        for (int i = 0; i < 24; i++) {
            x.thing(0, i == 0 ? 0 : 4);
            x.feature(i, 0, i == 0 ? 0 : 1);
        }
        x.setting(DEPTH, 1);
        x.setting(STEP, 100);
        x.grow();
        due.is("100 * -92", x.score(0), -9200);
        // Now all have one score; thing 0 has nine above it, by one each, and parts by feature 1 alone.
        x.feature(0, 0, 1);
        for (int i = 0; i < 24; i++) {
            x.grade(i, i >= 1 && i <= 9 ? 1 : 0);
            x.feature(i, 1, i == 0 ? 0 : 1);
        }
        x.setting(STEP, 89);
        x.grow();
        x.feature(0, 0, 0);
        due.is("100 * -92 + 89 * -9", x.score(0), -10001);
        due.is("as its trees say, the first", x.value(0, 0), -9200);
        due.is("as its trees say, the second", x.value(1, 0), -801);
        due.is("the thing is still there", x.ranked(0, 23), 0);
    }

    @Says(where = "Promise 12: score", sentence = "UNKNOWN (which a SCORE may be, too).")
    static void scoreOfNoThing(Due due) {
        PairedTrees x = new PairedTrees();
        due.is("thing 0, before it comes", x.score(0), UNKNOWN);
        x.thing(0, 0);
        for (int thing : new int[] {LOWEST, -2, 1, 23, 24, HIGHEST}) {
            due.is("thing " + thing, x.score(thing), UNKNOWN);
        }
    }

    // ---- 13 value

    @Says(where = "Promise 13: value", sentence = "The VALUE of a TREE for a THING (NONE: THE PROBE).")
    static void valueForTheProbe(Due due) {
        PairedTrees x = cutAndLeaf();
        due.is("the first tree, the first thing", x.value(0, 0), 20);
        due.is("the last tree, the last thing", x.value(1, 1), 0);
        due.is("the probe misses all: left", x.value(0, NONE), -20);
        x.feature(NONE, 0, 3);
        due.is("the probe has more than 2: right", x.value(0, NONE), 20);
        due.is("a tree that is a leaf", x.value(1, NONE), 0);
    }

    @Says(where = "Promise 13: value", sentence = "UNKNOWN (tree, thing).")
    static void valueOfNoTree(Due due) {
        PairedTrees x = Scenes.two();
        due.is("no tree as yet", x.value(0, 0), UNKNOWN);
        due.is("nor for the probe", x.value(0, NONE), UNKNOWN);
        x.grow();
        for (int tree : new int[] {LOWEST, -2, NONE, 1, 19, 20, WRAPS_TO_LESS_THAN_NOUGHT, HIGHEST}) {
            due.is("tree " + tree, x.value(tree, 0), UNKNOWN);
            due.is("for the probe, tree " + tree, x.value(tree, NONE), UNKNOWN);
        }
    }

    @Says(where = "Promise 13: value", sentence = "UNKNOWN (tree, thing).")
    static void valueForNoThing(Due due) {
        PairedTrees x = cutAndLeaf();
        for (int thing : new int[] {LOWEST, -2, 2, 23, 24, 25, HIGHEST}) {
            due.is("thing " + thing, x.value(0, thing), UNKNOWN);
            due.is("neither, thing " + thing, x.value(2, thing), UNKNOWN);
        }
    }

    // ---- 14 push

    @Says(where = "Promise 14: push", sentence = "The PUSH of a THING, as it is now.")
    static void pushAsItIsNow(Due due) {
        PairedTrees x = Scenes.two();
        due.is("by its grade", x.push(0), 2);
        x.grade(0, 4);
        due.is("by its new grade", x.push(0), 3);
        x.thing(0, 0);
        due.is("with a new thing", x.push(0), 7);
        // One cut: thing 0 has 70, the others, of which one misses feature 0, have -35.
        x.setting(DEPTH, 1);
        x.grow();
        due.is("when the trees have done enough", x.push(0), 0);
        x.feature(0, 0, 2);
        due.is("by its new feature", x.push(0), 7);
        x.feature(0, 0, 5);
        x.setting(MARGIN, 1000);
        due.is("by a new margin", x.push(0), 7);
        x.setting(MARGIN, 10);
        x.cut();
        due.is("without the tree", x.push(0), 7);
    }

    @Says(where = "Promise 14: push", sentence = "UNKNOWN.")
    static void pushOfNoThing(Due due) {
        PairedTrees x = new PairedTrees();
        due.is("thing 0, before it comes", x.push(0), UNKNOWN);
        x.thing(0, 0);
        for (int thing : new int[] {LOWEST, -2, NONE, 1, 23, 24, HIGHEST}) {
            due.is("thing " + thing, x.push(thing), UNKNOWN);
        }
    }

    // ---- 15 ranked

    @Says(where = "Promise 15: ranked", sentence = "The k-th THING (from 0) of a LIST")
    static void rankedFromFirstToLast(Due due) {
        PairedTrees x = Scenes.full();
        for (int list = 0; list < 4; list++) {
            due.is("the first of list " + list, x.ranked(list, 0), list);
            due.is("the last of list " + list, x.ranked(list, 5), 20 + list);
        }
    }

    @Says(where = "Promise 15: ranked", sentence = "those of greater SCORES first")
    static void rankedByOneMore(Due due) {
        PairedTrees x = Scenes.oneApart();
        x.grow();
        due.is("score 0", x.ranked(0, 0), 1);
        due.is("score -1", x.ranked(0, 1), 0);
    }

    @Says(where = "Promise 15: ranked", sentence = "of equal ones those of lesser numbers")
    static void rankedByNumber(Due due) {
        PairedTrees x = Scenes.three();
        for (int k = 0; k < 3; k++) {
            due.is("all equal", x.ranked(0, k), k);
        }
        x.setting(DEPTH, 1);
        x.grow();
        // Thing 1 has 30, things 0 and 2 have -15.
        int[] order = {1, 0, 2};
        for (int k = 0; k < 3; k++) {
            due.is("two equal", x.ranked(0, k), order[k]);
        }
    }

    @Says(where = "Promise 15: ranked", sentence = "NONE: it has not so many.")
    static void rankedOneTooFar(Due due) {
        PairedTrees x = new PairedTrees();
        due.is("no things", x.ranked(0, 0), NONE);
        for (int i = 0; i < 24; i++) {
            due.is("place " + i, x.ranked(2, i), NONE);
            x.thing(2, 0);
            due.is("place " + i + " is taken", x.ranked(2, i), i);
        }
        due.is("place 24", x.ranked(2, 24), NONE);
        due.is("the highest place", x.ranked(2, HIGHEST), NONE);
        due.is("a list that has none", x.ranked(3, 0), NONE);
    }

    @Says(where = "Promise 15: ranked", sentence = "NONE: it has not so many.")
    static void rankedBelowNought(Due due) {
        PairedTrees x = Scenes.three();
        for (int k : new int[] {LOWEST, -3, -2, -1}) {
            due.is("OUTSIDE is for the list alone, place " + k, x.ranked(0, k), NONE);
        }
    }

    @Says(where = "Promise 15: ranked", sentence = "OUTSIDE: the LIST.")
    static void rankedOfNoList(Due due) {
        PairedTrees x = Scenes.full();
        for (int list : new int[] {LOWEST, -2, NONE, 4, 5, HIGHEST}) {
            due.is("list " + list, x.ranked(list, 0), OUTSIDE);
            due.is("no such place either, list " + list, x.ranked(list, 24), OUTSIDE);
        }
    }

    // ---- 16 pairs

    @Says(where = "Promise 16: pairs", sentence = "How many PAIRS (what = 0), WRONG ones (1) a LIST has")
    static void pairsFromNoneToTheMost(Due due) {
        PairedTrees x = new PairedTrees();
        due.is("no things", x.pairs(0, 0), 0);
        due.is("no wrong ones", x.pairs(0, 1), 0);
        for (int i = 0; i < 24; i++) {
            x.thing(0, i % 5);
        }
        // (24 * 24 - 4 * 5 * 5 - 4 * 4) / 2: five things of each grade but the last, which has four.
        due.is("the most", x.pairs(0, 0), 230);
        due.is("all wrong", x.pairs(0, 1), 230);
        due.is("another list", x.pairs(3, 0), 0);
    }

    @Says(where = "Promise 16: pairs", sentence = "(NONE: all LISTS)")
    static void pairsOfAllLists(Due due) {
        PairedTrees x = new PairedTrees();
        due.is("no things", x.pairs(NONE, 0), 0);
        for (int list = 0; list < 4; list++) {
            x.thing(list, 1);
            x.thing(list, 0);
            due.is("lists up to " + list, x.pairs(NONE, 0), list + 1);
            due.is("wrong ones up to " + list, x.pairs(NONE, 1), list + 1);
        }
    }

    @Says(where = "Promise 16: pairs", sentence = "OUTSIDE.")
    static void pairsOfNoList(Due due) {
        PairedTrees x = Scenes.full();
        for (int list : new int[] {LOWEST, -3, -2, 4, 5, HIGHEST}) {
            due.is("list " + list, x.pairs(list, 0), OUTSIDE);
            due.is("wrong ones of list " + list, x.pairs(list, 1), OUTSIDE);
        }
    }

    @Says(where = "Promise 16: pairs", sentence = "OUTSIDE.")
    static void pairsOfNoWhat(Due due) {
        PairedTrees x = Scenes.full();
        for (int what : new int[] {LOWEST, -2, NONE, 2, 3, HIGHEST}) {
            due.is("of a list, " + what, x.pairs(0, what), OUTSIDE);
            due.is("of all, " + what, x.pairs(NONE, what), OUTSIDE);
        }
    }

    // ---- 17 share

    @Says(where = "Promise 17: share", sentence = "Thousandths of a LIST's PAIRS (NONE: of all) that are WRONG, cut.")
    static void shareIsCut(Due due) {
        PairedTrees x = Scenes.three();
        due.is("three of three", x.share(0), 1000);
        x.setting(DEPTH, 1);
        x.grow();
        // Thing 1 has 30, things 0 and 2, a pair, have -15.
        due.is("one of three", x.share(0), 333);
        x.feature(0, 0, 10);
        x.feature(1, 0, 20);
        due.is("two of three, not rounded", x.share(0), 666);
        x.feature(1, 0, 10);
        x.feature(0, 0, 20);
        x.cut();
        x.setting(DEPTH, 2);
        x.grow();
        due.is("none of three", x.share(0), 0);
    }

    @Says(where = "Promise 17: share", sentence = "Thousandths of a LIST's PAIRS (NONE: of all) that are WRONG, cut.")
    static void shareOfAll(Due due) {
        PairedTrees x = Scenes.three();
        x.setting(DEPTH, 2);
        x.grow();
        x.thing(3, 1);
        x.thing(3, 0);
        due.is("none of list 0", x.share(0), 0);
        due.is("all of list 3", x.share(3), 1000);
        due.is("one of four", x.share(NONE), 250);
    }

    @Says(where = "Promise 17: share", sentence = "OUTSIDE.")
    static void shareOfNoList(Due due) {
        PairedTrees x = new PairedTrees();
        for (int list : new int[] {LOWEST, -3, -2, 4, 5, HIGHEST}) {
            due.is("without pairs, list " + list, x.share(list), OUTSIDE);
        }
        PairedTrees y = Scenes.two();
        for (int list : new int[] {LOWEST, -2, 4, HIGHEST}) {
            due.is("with pairs, list " + list, y.share(list), OUTSIDE);
        }
    }

    @Says(where = "Promise 17: share", sentence = "ArithmeticException: there are no PAIRS.")
    static void shareOfNoPairs(Due due) {
        PairedTrees x = new PairedTrees();
        due.isThrown("no things", NO_PAIRS, () -> x.share(NONE));
        due.isThrown("no things in a list", NO_PAIRS, () -> x.share(0));
        x.thing(0, 2);
        due.isThrown("one thing", NO_PAIRS, () -> x.share(0));
        x.thing(0, 2);
        x.thing(1, 4);
        due.isThrown("two of one grade", NO_PAIRS, () -> x.share(0));
        due.isThrown("nor in all", NO_PAIRS, () -> x.share(NONE));
        x.grade(1, 1);
        due.is("one pair", x.share(0), 1000);
        due.is("one pair in all", x.share(NONE), 1000);
        due.isThrown("none in another list", NO_PAIRS, () -> x.share(1));
        due.isThrown("none in an empty one", NO_PAIRS, () -> x.share(3));
    }

    // ---- 18 about

    @Says(where = "Promise 18: about", sentence = "How many: 0 THINGS, 1 TREES, 2 LEAVES of all TREES")
    static void aboutTheMost(Due due) {
        PairedTrees x = Scenes.eight();
        x.setting(MARGIN, 1000);
        x.setting(STEP, 1);
        x.setting(DEPTH, 3);
        for (int tree = 0; tree < 20; tree++) {
            due.is("trees before", x.about(1), tree);
            due.is("leaves before", x.about(2), 8 * tree);
            x.grow();
        }
        due.is("trees", x.about(1), 20);
        due.is("leaves", x.about(2), 160);
        due.is("cuts", x.about(11), 140);
        for (int things = 8; things < 24; things++) {
            due.is("things before", x.about(0), things);
            x.thing(0, 0);
        }
        due.is("things", x.about(0), 24);
    }

    @Says(where = "Promise 18: about", sentence = "10 .. 13: CUTS by FEATURE 0 .. 3 in all TREES.")
    static void aboutEachFeature(Due due) {
        PairedTrees x = new PairedTrees();
        x.thing(0, 1);
        x.thing(0, 0);
        x.setting(MARGIN, 1000);
        for (int f = 0; f < 4; f++) {
            due.is("before, feature " + f, x.about(10 + f), 0);
            x.feature(0, f, 1);
            for (int tree = 0; tree <= f; tree++) {
                x.grow();
            }
            x.miss(0, f);
        }
        for (int f = 0; f < 4; f++) {
            due.is("feature " + f, x.about(10 + f), f + 1);
        }
    }

    @Says(where = "Promise 18: about", sentence = "OUTSIDE.")
    static void aboutNothing(Due due) {
        PairedTrees x = Scenes.busy();
        for (int what : new int[] {LOWEST, -2, NONE, 3, 4, 8, 9, 14, 15, HIGHEST}) {
            due.is("about " + what, x.about(what), OUTSIDE);
        }
    }
}
