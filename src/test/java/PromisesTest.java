/** Each promise of the document by itself, with answers worked out by hand. */
public final class PromisesTest {
    private static final int NONE = -1;
    private static final int UNKNOWN = -10001;
    private static final int OUTSIDE = -10002;
    private static final int FULL = -10003;
    private static final int STATE = -10004;
    private static final int LOWEST = Integer.MIN_VALUE;
    private static final int HIGHEST = Integer.MAX_VALUE;

    private static final Due DUE = new Due();

    public static void main(String[] args) {
        newObject();
        thing();
        thingOfAllKinds();
        grade();
        feature();
        miss();
        told();
        setting();
        growByRefusals();
        growByLeast();
        growByDepth();
        growByEqualGains();
        growByMissing();
        growByMargin();
        cut();
        node();
        gain();
        score();
        value();
        push();
        ranked();
        pairs();
        share();
        about();
        clear();
        DUE.end();
    }

    private static void isNew(String when, PairedTrees x) {
        for (int what : new int[] {0, 1, 2, 10, 11, 12, 13}) {
            DUE.is(when + " about " + what, x.about(what), 0);
        }
        DUE.is(when + " grow", x.grow(), STATE);
        DUE.is(when + " cut", x.cut(), STATE);
        DUE.is(when + " score of the probe", x.score(NONE), 0);
        int[] first = {10, 10, 2, 1};
        for (int what = 0; what < 4; what++) {
            DUE.is(when + " setting " + what, x.setting(what, 1), first[what]);
            DUE.is(when + " setting back " + what, x.setting(what, first[what]), 1);
        }
        for (int f = 0; f < 4; f++) {
            DUE.is(when + " the probe misses " + f, x.miss(NONE, f), 0);
        }
    }

    private static void newObject() {
        isNew("new", new PairedTrees());
    }

    private static void thing() {
        PairedTrees x = new PairedTrees();
        int[][] outside = {{-1, 0}, {4, 0}, {0, -1}, {0, 5}, {LOWEST, 0}, {HIGHEST, 0}, {0, LOWEST}, {0, HIGHEST}};
        for (int[] o : outside) {
            DUE.is("thing outside", x.thing(o[0], o[1]), OUTSIDE);
        }
        DUE.is("things after refusals", x.about(0), 0);
        for (int i = 0; i < 24; i++) {
            DUE.is("thing " + i, x.thing(i % 4, i % 5), i);
        }
        DUE.is("a 25th thing", x.thing(0, 0), FULL);
        DUE.is("a 25th thing of no list", x.thing(4, 0), OUTSIDE);
        DUE.is("a 25th thing of no grade", x.thing(0, 5), OUTSIDE);
        DUE.is("things when full", x.about(0), 24);
        DUE.is("the last thing's grade", x.grade(23, 0), 3);
    }

    private static void thingOfAllKinds() {
        PairedTrees x = new PairedTrees();
        DUE.is("list 0, grade 0", x.thing(0, 0), 0);
        DUE.is("list 3, grade 4", x.thing(3, 4), 1);
        DUE.is("grade was 0", x.grade(0, 0), 0);
        DUE.is("grade was 4", x.grade(1, 4), 4);
        DUE.is("in list 0", x.ranked(0, 0), 0);
        DUE.is("in list 3", x.ranked(3, 0), 1);
        for (int f = 0; f < 4; f++) {
            DUE.is("a new thing misses " + f, x.miss(1, f), 0);
        }
    }

    private static void grade() {
        PairedTrees x = new PairedTrees();
        DUE.is("no thing", x.grade(0, 0), UNKNOWN);
        x.thing(0, 2);
        DUE.is("to 4", x.grade(0, 4), 2);
        DUE.is("the same", x.grade(0, 4), 4);
        DUE.is("to 5", x.grade(0, 5), OUTSIDE);
        DUE.is("to -1", x.grade(0, -1), OUTSIDE);
        DUE.is("the probe has none", x.grade(NONE, 1), UNKNOWN);
        DUE.is("thing 1", x.grade(1, 1), UNKNOWN);
        DUE.is("thing 1 to 5", x.grade(1, 5), UNKNOWN);
        DUE.is("highest thing", x.grade(HIGHEST, LOWEST), UNKNOWN);
        DUE.is("to 0, after refusals", x.grade(0, 0), 4);
        x.thing(0, 1);
        DUE.is("a pair", x.push(0), -1);
        x.grade(0, 3);
        DUE.is("a pair the other way", x.push(0), 2);
    }

    private static void feature() {
        PairedTrees x = new PairedTrees();
        DUE.is("no thing", x.feature(0, 0, 0), UNKNOWN);
        DUE.is("no thing, no feature", x.feature(0, 4, 1001), UNKNOWN);
        x.thing(0, 0);
        for (int owner : new int[] {0, NONE}) {
            DUE.is("was missing", x.feature(owner, 0, -1000), 0);
            DUE.is("was a number", x.feature(owner, 0, 1000), 1);
            DUE.is("the same", x.feature(owner, 0, 1000), 1);
            DUE.is("above", x.feature(owner, 0, 1001), OUTSIDE);
            DUE.is("below", x.feature(owner, 0, -1001), OUTSIDE);
            DUE.is("lowest", x.feature(owner, 0, LOWEST), OUTSIDE);
            DUE.is("feature 4", x.feature(owner, 4, 0), OUTSIDE);
            DUE.is("feature -1", x.feature(owner, -1, 0), OUTSIDE);
            DUE.is("highest feature", x.feature(owner, HIGHEST, 0), OUTSIDE);
            DUE.is("feature 3", x.feature(owner, 3, 0), 0);
        }
        DUE.is("thing -2", x.feature(-2, 0, 0), UNKNOWN);
        DUE.is("thing 1", x.feature(1, 0, 0), UNKNOWN);
        DUE.is("thing 24", x.feature(24, 0, 0), UNKNOWN);
        DUE.is("told", x.told(0, 0), 1000);
        DUE.is("the least number", x.feature(0, 0, -1000), 1);
        DUE.is("told the least", x.told(0, 0), -1000);
    }

    private static void miss() {
        PairedTrees x = new PairedTrees();
        DUE.is("no thing", x.miss(0, 0), UNKNOWN);
        DUE.is("no thing, no feature", x.miss(0, 4), UNKNOWN);
        x.thing(0, 0);
        for (int owner : new int[] {0, NONE}) {
            DUE.is("missing already", x.miss(owner, 2), 0);
            x.feature(owner, 2, 0);
            x.feature(owner, 1, 7);
            DUE.is("feature 4", x.miss(owner, 4), OUTSIDE);
            DUE.is("feature -1", x.miss(owner, -1), OUTSIDE);
            DUE.is("was a number", x.miss(owner, 2), 1);
            DUE.is("missing again", x.miss(owner, 2), 0);
            DUE.is("the other stays", x.feature(owner, 1, 7), 1);
        }
        DUE.is("thing -2", x.miss(-2, 0), UNKNOWN);
        DUE.is("thing 1", x.miss(1, 0), UNKNOWN);
    }

    private static void told() {
        PairedTrees x = new PairedTrees();
        Class<NullPointerException> none = NullPointerException.class;
        Class<ArrayIndexOutOfBoundsException> off = ArrayIndexOutOfBoundsException.class;
        DUE.isThrown("no thing 0", none, () -> x.told(0, 0));
        DUE.isThrown("no thing 23, no feature 4", none, () -> x.told(23, 4));
        DUE.isThrown("number 24", off, () -> x.told(24, 0));
        DUE.isThrown("number -1: the probe is no thing", off, () -> x.told(NONE, 0));
        DUE.isThrown("lowest number", off, () -> x.told(LOWEST, 0));
        DUE.isThrown("highest numbers", off, () -> x.told(HIGHEST, HIGHEST));
        x.thing(0, 0);
        x.feature(0, 1, -7);
        x.feature(0, 2, 0);
        DUE.is("a number", x.told(0, 1), -7);
        DUE.is("nought is no missing one", x.told(0, 2), 0);
        DUE.isThrown("missing", none, () -> x.told(0, 0));
        DUE.isThrown("feature 4", off, () -> x.told(0, 4));
        DUE.isThrown("feature -1", off, () -> x.told(0, -1));
        DUE.isThrown("thing 1", none, () -> x.told(1, 0));
        x.miss(0, 1);
        DUE.isThrown("missing again", none, () -> x.told(0, 1));
        DUE.is("nothing changed", x.told(0, 2), 0);
    }

    private static void setting() {
        PairedTrees x = new PairedTrees();
        int[] least = {0, 1, 1, 1};
        int[] most = {1000, 100, 3, 8};
        int[] first = {10, 10, 2, 1};
        for (int what = 0; what < 4; what++) {
            DUE.is("below, setting " + what, x.setting(what, least[what] - 1), OUTSIDE);
            DUE.is("above, setting " + what, x.setting(what, most[what] + 1), OUTSIDE);
            DUE.is("lowest, setting " + what, x.setting(what, LOWEST), OUTSIDE);
            DUE.is("highest, setting " + what, x.setting(what, HIGHEST), OUTSIDE);
            DUE.is("to the least, setting " + what, x.setting(what, least[what]), first[what]);
            DUE.is("to the most, setting " + what, x.setting(what, most[what]), least[what]);
            DUE.is("the same, setting " + what, x.setting(what, most[what]), most[what]);
        }
        DUE.is("setting 4", x.setting(4, 1), OUTSIDE);
        DUE.is("setting -1", x.setting(-1, 1), OUTSIDE);
        DUE.is("lowest setting", x.setting(LOWEST, 1), OUTSIDE);
        DUE.is("highest setting", x.setting(HIGHEST, 1), OUTSIDE);
    }

    private static void growByRefusals() {
        PairedTrees x = new PairedTrees();
        x.feature(NONE, 0, 1);
        DUE.is("no things", x.grow(), STATE);
        DUE.is("no tree came", x.about(1), 0);
        x.thing(0, 4);
        for (int tree = 0; tree < 20; tree++) {
            DUE.is("tree " + tree, x.grow(), 1);
        }
        DUE.is("a 21st tree", x.grow(), FULL);
        DUE.is("trees when full", x.about(1), 20);
        DUE.is("one goes", x.cut(), 19);
        DUE.is("room again", x.grow(), 1);
        DUE.is("the last tree's things", x.node(19, 0, 5), 1);
    }

    private static void growByLeast() {
        PairedTrees x = new PairedTrees();
        for (int i = 0; i < 4; i++) {
            x.thing(0, i < 2 ? 1 : 0);
            x.feature(i, 2, i);
        }
        // Pushes 2, 2, -2, -2: halves gain 16, one against three 16 / 3.
        x.setting(3, 3);
        DUE.is("three cannot go to each side", x.grow(), 1);
        x.setting(3, 2);
        x.setting(2, 3);
        DUE.is("two to each side", x.grow(), 2);
        DUE.is("by feature 2", x.node(1, 0, 1), 2);
        DUE.is("at 1", x.node(1, 0, 2), 1);
        DUE.is("gain 16", x.gain(1, 0, 0), 16);
        DUE.is("left has two", x.node(1, 1, 5), 2);
        DUE.is("right has two", x.node(1, 2, 5), 2);
    }

    private static void growByDepth() {
        PairedTrees x = Scenes.eight();
        int[][] values = {{55, -55}, {85, 25, -35, -75}, {90, 80, 40, 10, -30, -40, -70, -80}};
        for (int depth = 3; depth >= 1; depth--) {
            x.setting(2, depth);
            int leaves = 1 << depth;
            DUE.is("leaves of depth " + depth, x.grow(), leaves);
            for (int i = 0; i < leaves; i++) {
                DUE.is("depth " + depth + ", leaf " + i, x.node(0, leaves - 1 + i, 4), values[depth - 1][i]);
            }
            DUE.is("no node below depth " + depth, x.node(0, 2 * leaves - 1, 0), UNKNOWN);
            DUE.is("the last thing's value at depth " + depth, x.value(0, 7), values[depth - 1][leaves - 1]);
            x.cut();
        }
    }

    private static void growByEqualGains() {
        PairedTrees x = Scenes.three();
        x.setting(2, 1);
        x.setting(1, 1);
        DUE.is("a cut", x.grow(), 2);
        DUE.is("of equal ones the least number", x.node(0, 0, 2), 10);
        DUE.is("of equal ones the least side", x.node(0, 0, 3), 0);
        DUE.is("gain 27 / 2, upper", x.gain(0, 0, 0), 27);
        DUE.is("gain 27 / 2, lower", x.gain(0, 0, 1), 2);
        DUE.is("left 3 / 1", x.node(0, 1, 4), 3);
        DUE.is("right -3 / 2, rounded down", x.node(0, 2, 4), -2);

        PairedTrees y = Scenes.two();
        for (int f = 1; f < 4; f++) {
            y.feature(0, f, -900);
            y.feature(1, f, -1000);
        }
        y.grow();
        DUE.is("of equal ones the least feature", y.node(0, 0, 1), 0);
        y.miss(0, 0);
        y.miss(1, 0);
        y.grow();
        DUE.is("with feature 0 missing", y.node(1, 0, 0), 1);
        DUE.is("the next feature", y.node(1, 0, 1), 1);
        DUE.is("its number", y.node(1, 0, 2), -1000);

        PairedTrees z = new PairedTrees();
        z.thing(0, 2);
        z.thing(0, 2);
        z.feature(0, 0, 1);
        z.feature(1, 0, 2);
        DUE.is("no gain above 0: a leaf", z.grow(), 1);
    }

    private static void growByMissing() {
        PairedTrees x = Scenes.two();
        x.miss(1, 0);
        // The one number, 5, goes left; what misses parts from it only to the right.
        DUE.is("a cut", x.grow(), 2);
        DUE.is("at 5", x.node(0, 0, 2), 5);
        DUE.is("what misses goes right", x.node(0, 0, 3), 1);
        DUE.is("left", x.value(0, 0), 20);
        DUE.is("right", x.value(0, 1), -20);

        PairedTrees y = new PairedTrees();
        int[] grades = {0, 4, 0};
        for (int i = 0; i < 3; i++) {
            y.thing(0, grades[i]);
        }
        y.feature(0, 1, 3);
        y.feature(1, 1, 8);
        // Pushes -4, 8, -4: thing 2, which misses it, goes with thing 0.
        DUE.is("a cut again", y.grow(), 2);
        DUE.is("at 3", y.node(0, 0, 2), 3);
        DUE.is("what misses goes left", y.node(0, 0, 3), 0);
        DUE.is("gain 96", y.gain(0, 0, 0), 96);
        DUE.is("two went left", y.node(0, 1, 5), 2);
        DUE.is("the probe misses it", y.value(0, NONE), -40);
    }

    private static void growByMargin() {
        PairedTrees x = Scenes.two();
        x.grow();
        DUE.is("20 less -20 is not below 10", x.grow(), 1);
        DUE.is("value 0", x.node(1, 0, 4), 0);
        x.setting(0, 41);
        DUE.is("40 is below 41", x.grow(), 2);
        DUE.is("scores move on", x.score(0), 40);
        x.setting(1, 100);
        DUE.is("80 is not below 41", x.grow(), 1);
        DUE.is("a later step changes no earlier tree", x.value(2, 0), 20);
    }

    private static void cut() {
        PairedTrees x = Scenes.two();
        DUE.is("no tree", x.cut(), STATE);
        x.grow();
        x.setting(0, 1000);
        x.setting(1, 1);
        x.grow();
        DUE.is("two trees", x.score(0), 22);
        DUE.is("the latest goes", x.cut(), 1);
        DUE.is("the first stays", x.score(0), 20);
        DUE.is("no tree 1", x.node(1, 0, 0), UNKNOWN);
        DUE.is("no tree 1's value", x.value(1, 0), UNKNOWN);
        DUE.is("no tree 1's gain", x.gain(1, 0, 0), UNKNOWN);
        DUE.is("leaves", x.about(2), 2);
        DUE.is("cuts", x.about(10), 1);
        DUE.is("the first goes", x.cut(), 0);
        DUE.is("none left", x.cut(), STATE);
        DUE.is("things stay", x.about(0), 2);
        x.miss(0, 0);
        x.miss(1, 0);
        DUE.is("a tree of one leaf in its place", x.grow(), 1);
        DUE.is("no node 1", x.node(0, 1, 0), UNKNOWN);
        DUE.is("node 0 has no gain", x.gain(0, 0, 0), UNKNOWN);
    }

    private static void node() {
        PairedTrees x = Scenes.two();
        DUE.is("no tree", x.node(0, 0, 0), UNKNOWN);
        x.grow();
        int[] ofCut = {1, 0, 2, 0, OUTSIDE, 2, OUTSIDE};
        int[] ofLeft = {0, OUTSIDE, OUTSIDE, OUTSIDE, -20, 1, OUTSIDE};
        int[] ofRight = {0, OUTSIDE, OUTSIDE, OUTSIDE, 20, 1, OUTSIDE};
        for (int what = 0; what < 7; what++) {
            DUE.is("node 0, " + what, x.node(0, 0, what), ofCut[what]);
            DUE.is("node 1, " + what, x.node(0, 1, what), ofLeft[what]);
            DUE.is("node 2, " + what, x.node(0, 2, what), ofRight[what]);
            DUE.is("node 3, " + what, x.node(0, 3, what), UNKNOWN);
        }
        DUE.is("what -1", x.node(0, 0, -1), OUTSIDE);
        DUE.is("lowest what", x.node(0, 1, LOWEST), OUTSIDE);
        for (int k : new int[] {LOWEST, -1, 14, 15, 1 << 28, HIGHEST}) {
            DUE.is("no node " + k, x.node(0, k, 0), UNKNOWN);
            DUE.is("no node, no what " + k, x.node(0, k, 6), UNKNOWN);
        }
        for (int tree : new int[] {LOWEST, -1, 1, 20, HIGHEST}) {
            DUE.is("no tree " + tree, x.node(tree, 0, 0), UNKNOWN);
        }
        x.thing(0, 0);
        x.miss(0, 0);
        DUE.is("how many it held, not holds", x.node(0, 0, 5), 2);
        DUE.is("nor does a change of features", x.node(0, 2, 5), 1);
    }

    private static void gain() {
        PairedTrees x = Scenes.two();
        DUE.is("no tree", x.gain(0, 0, 0), UNKNOWN);
        x.grow();
        DUE.is("2 2 / 1 + 2 2 / 1 - 0, upper", x.gain(0, 0, 0), 8);
        DUE.is("lower", x.gain(0, 0, 1), 1);
        DUE.is("part 2", x.gain(0, 0, 2), OUTSIDE);
        DUE.is("part -1", x.gain(0, 0, -1), OUTSIDE);
        DUE.is("a leaf", x.gain(0, 1, 0), UNKNOWN);
        DUE.is("a leaf, part 2", x.gain(0, 1, 2), UNKNOWN);
        for (int k : new int[] {LOWEST, -1, 3, 15, HIGHEST}) {
            DUE.is("no node " + k, x.gain(0, k, 0), UNKNOWN);
        }
        for (int tree : new int[] {LOWEST, -1, 1, HIGHEST}) {
            DUE.is("no tree " + tree, x.gain(tree, 0, 2), UNKNOWN);
        }
        PairedTrees y = Scenes.three();
        y.grow();
        DUE.is("the right node's cut, 9 + 0 - 9 / 2, upper", y.gain(0, 2, 0), 9);
        DUE.is("the right node's cut, lower", y.gain(0, 2, 1), 2);
    }

    private static void score() {
        PairedTrees x = Scenes.two();
        DUE.is("no trees", x.score(0), 0);
        x.setting(0, 100);
        x.grow();
        x.grow();
        DUE.is("two trees", x.score(0), 40);
        DUE.is("two trees, the other", x.score(1), -40);
        DUE.is("the probe misses all", x.score(NONE), -40);
        x.feature(NONE, 0, 2);
        DUE.is("2 is 2 or less", x.score(NONE), -40);
        x.feature(NONE, 0, 3);
        DUE.is("3 is more", x.score(NONE), 40);
        x.feature(0, 0, -1);
        DUE.is("features as they are now", x.score(0), -40);
        DUE.is("a later thing", x.score(x.thing(3, 0)), -40);
        for (int thing : new int[] {LOWEST, -2, 3, 23, 24, HIGHEST}) {
            DUE.is("no thing " + thing, x.score(thing), UNKNOWN);
        }
    }

    private static void value() {
        PairedTrees x = Scenes.two();
        DUE.is("no tree", x.value(0, 0), UNKNOWN);
        x.setting(0, 1000);
        x.grow();
        x.setting(1, 3);
        x.grow();
        DUE.is("tree 0", x.value(0, 0), 20);
        DUE.is("tree 1", x.value(1, 0), 6);
        DUE.is("tree 1, thing 1", x.value(1, 1), -6);
        DUE.is("tree 1, the probe", x.value(1, NONE), -6);
        x.feature(NONE, 0, 1000);
        DUE.is("tree 1, the probe led right", x.value(1, NONE), 6);
        for (int off : new int[] {LOWEST, -2, 2, 24, HIGHEST}) {
            DUE.is("no thing " + off, x.value(0, off), UNKNOWN);
            DUE.is("no tree " + off, x.value(off, 0), UNKNOWN);
            DUE.is("no tree for the probe " + off, x.value(off, NONE), UNKNOWN);
        }
        DUE.is("no tree -1", x.value(-1, 0), UNKNOWN);
    }

    private static void push() {
        PairedTrees x = Scenes.three();
        x.thing(1, 4);
        x.thing(0, 1);
        // List 0 has grades 1, 2, 0, 1; of equal grades there is no pair.
        int[] due = {0, 4, -4, 0, 0};
        for (int i = 0; i < 5; i++) {
            DUE.is("push " + i, x.push(i), due[i]);
        }
        for (int thing : new int[] {LOWEST, -2, NONE, 5, 24, HIGHEST}) {
            DUE.is("no thing " + thing, x.push(thing), UNKNOWN);
        }
        PairedTrees y = Scenes.two();
        y.setting(0, 0);
        DUE.is("0 less 0 is not below 0", y.push(0), 0);
        y.setting(0, 1);
        DUE.is("but below 1", y.push(0), 2);
        y.grow();
        y.setting(0, 40);
        DUE.is("40 is not below 40", y.push(0), 0);
        y.setting(0, 41);
        DUE.is("40 is below 41", y.push(1), -2);
        y.setting(0, 0);
        y.grade(1, 4);
        DUE.is("-40 is below 0", y.push(1), 1);
    }

    private static void ranked() {
        PairedTrees x = Scenes.three();
        x.thing(2, 0);
        for (int k = 0; k < 3; k++) {
            DUE.is("equal scores, place " + k, x.ranked(0, k), k);
        }
        x.grow();
        int[] due = {1, 0, 2, NONE};
        for (int k = 0; k < 4; k++) {
            DUE.is("greater scores first, place " + k, x.ranked(0, k), due[k]);
        }
        DUE.is("list 2", x.ranked(2, 0), 3);
        DUE.is("list 2 has one", x.ranked(2, 1), NONE);
        DUE.is("list 3 has none", x.ranked(3, 0), NONE);
        DUE.is("highest place", x.ranked(0, HIGHEST), NONE);
        DUE.is("no place -1", x.ranked(0, -1), NONE);
        DUE.is("lowest place", x.ranked(0, LOWEST), NONE);
        for (int list : new int[] {LOWEST, NONE, 4, HIGHEST}) {
            DUE.is("no list " + list, x.ranked(list, 0), OUTSIDE);
        }
    }

    private static void pairs() {
        PairedTrees x = Scenes.three();
        x.thing(3, 0);
        x.thing(3, 4);
        x.thing(3, 4);
        int[] all = {5, 3, 0, 0, 2};
        for (int list = NONE; list < 4; list++) {
            DUE.is("pairs of " + list, x.pairs(list, 0), all[list + 1]);
            DUE.is("equal scores are wrong, " + list, x.pairs(list, 1), all[list + 1]);
        }
        for (int i = 3; i < 6; i++) {
            x.feature(i, 0, 10);
        }
        x.setting(2, 1);
        x.grow();
        DUE.is("wrong ones of list 3 stay", x.pairs(3, 1), 2);
        DUE.is("wrong ones of list 0", x.pairs(0, 1), 1);
        DUE.is("wrong ones of all", x.pairs(NONE, 1), 3);
        DUE.is("pairs of all stay", x.pairs(NONE, 0), 5);
        for (int off : new int[] {LOWEST, -2, 4, HIGHEST}) {
            DUE.is("no list " + off, x.pairs(off, 0), OUTSIDE);
            DUE.is("no what " + off, x.pairs(0, off), OUTSIDE);
        }
        DUE.is("no what -1", x.pairs(0, -1), OUTSIDE);
        DUE.is("no what 2", x.pairs(NONE, 2), OUTSIDE);
    }

    private static void share() {
        PairedTrees x = new PairedTrees();
        Class<ArithmeticException> none = ArithmeticException.class;
        DUE.isThrown("no things", none, () -> x.share(NONE));
        for (int off : new int[] {LOWEST, -2, 4, HIGHEST}) {
            DUE.is("no list " + off, x.share(off), OUTSIDE);
        }
        x.thing(1, 2);
        x.thing(1, 2);
        x.thing(2, 0);
        DUE.isThrown("no pairs in all", none, () -> x.share(NONE));
        DUE.isThrown("no pairs in 1", none, () -> x.share(1));
        x.grade(1, 0);
        DUE.is("all wrong", x.share(1), 1000);
        DUE.is("all wrong, of all", x.share(NONE), 1000);
        DUE.isThrown("no pairs in 2", none, () -> x.share(2));

        PairedTrees y = Scenes.three();
        y.setting(2, 1);
        y.grow();
        DUE.is("one of three, cut", y.share(0), 333);
        y.feature(1, 0, 20);
        DUE.is("all three", y.share(0), 1000);
        y.feature(1, 0, 10);
        y.feature(0, 0, 10);
        y.feature(2, 0, 20);
        DUE.is("one of three still", y.share(NONE), 333);
        y.cut();
        y.setting(2, 2);
        y.feature(0, 0, 20);
        y.feature(2, 0, 30);
        y.grow();
        DUE.is("none wrong", y.share(0), 0);
    }

    private static void about() {
        PairedTrees x = Scenes.two();
        x.setting(0, 1000);
        x.grow();
        x.feature(0, 3, 1);
        x.miss(0, 0);
        x.miss(1, 0);
        x.grow();
        x.grow();
        x.miss(0, 3);
        x.grow();
        int[][] due = {{0, 2}, {1, 4}, {2, 7}, {10, 1}, {11, 0}, {12, 0}, {13, 2}};
        for (int[] d : due) {
            DUE.is("about " + d[0], x.about(d[0]), d[1]);
        }
        for (int off : new int[] {LOWEST, -1, 3, 9, 14, HIGHEST}) {
            DUE.is("about " + off, x.about(off), OUTSIDE);
        }
        PairedTrees y = Scenes.three();
        y.feature(0, 2, 0);
        y.feature(2, 2, 1);
        y.grow();
        DUE.is("three leaves", y.about(2), 3);
        DUE.is("two cuts", y.about(10) + y.about(11) + y.about(12) + y.about(13), 2);
    }

    private static void clear() {
        PairedTrees x = Scenes.two();
        x.grow();
        for (int f = 0; f < 4; f++) {
            x.feature(NONE, f, 9);
            x.feature(0, f, 9);
        }
        x.setting(0, 1000);
        x.setting(1, 100);
        x.setting(2, 3);
        x.setting(3, 8);
        DUE.is("two things there were", x.clear(), 2);
        isNew("cleared", x);
        DUE.is("no thing", x.grade(0, 0), UNKNOWN);
        DUE.is("no tree", x.node(0, 0, 0), UNKNOWN);
        DUE.isThrown("nothing told", NullPointerException.class, () -> x.told(0, 0));
        DUE.is("numbers from 0 on", x.thing(2, 2), 0);
        for (int f = 0; f < 4; f++) {
            DUE.is("a thing's features miss again", x.miss(0, f), 0);
        }
        DUE.is("one thing there was", x.clear(), 1);
        DUE.is("none there was", x.clear(), 0);
    }
}
