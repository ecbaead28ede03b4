/** The sentences that tell the terms, where they name a boundary case: one test for each. */
public final class TermsBoundariesTest {
    private static final int NONE = -1;
    private static final int UNKNOWN = -10001;
    private static final int OUTSIDE = -10002;
    private static final int FULL = -10003;
    private static final int STATE = -10004;
    private static final int LOWEST = Integer.MIN_VALUE;
    private static final int HIGHEST = Integer.MAX_VALUE;

    private static final int MARGIN = 0;
    private static final int STEP = 1;
    private static final int DEPTH = 2;
    private static final int LEAST = 3;

    // What node tells of.
    private static final int IS_CUT = 0;
    private static final int FEATURE = 1;
    private static final int NUMBER = 2;
    private static final int SIDE = 3;
    private static final int VALUE = 4;
    private static final int HELD = 5;

    public static void main(String[] args) throws IllegalAccessException {
        SaidTests.run(TermsBoundariesTest.class);
    }

    // ---- THINGS

    @Says(where = "What it is", sentence = "An object is used for at most 512 calls after it has been made")
    static void the512thCall(Due due) {
        PairedTrees x = Scenes.two();
        for (int turn = 0; turn < 253; turn++) {
            due.is("grow", x.grow(), 2);
            due.is("cut", x.cut(), 0);
        }
        due.is("call 511", x.thing(0, 2), 2);
        due.is("call 512", x.push(2), 0);
    }

    @Says(where = "What it is", sentence = "THINGS, 24 at most")
    static void twentyFourThings(Due due) {
        PairedTrees x = new PairedTrees();
        for (int i = 0; i < 23; i++) {
            x.thing(0, 0);
        }
        due.is("the 24th", x.thing(0, 0), 23);
        due.is("the 25th", x.thing(0, 0), FULL);
        due.is("how many", x.about(0), 24);
    }

    @Says(where = "What it is", sentence = "numbered from 0 on as they come")
    static void numbersOfThings(Due due) {
        PairedTrees x = new PairedTrees();
        for (int i = 0; i < 24; i++) {
            due.is("a refused one takes no number", x.thing(4, 0), OUTSIDE);
            due.is("the next one", x.thing(3 - i % 4, i % 5), i);
        }
    }

    @Says(where = "Terms", sentence = "have a LIST (0 .. 3)")
    static void listsOfThings(Due due) {
        PairedTrees x = new PairedTrees();
        due.is("list -1", x.thing(-1, 0), OUTSIDE);
        due.is("list 0", x.thing(0, 0), 0);
        due.is("list 3", x.thing(3, 0), 1);
        due.is("list 4", x.thing(4, 0), OUTSIDE);
        due.is("it is in list 0", x.ranked(0, 0), 0);
        due.is("it is in list 3", x.ranked(3, 0), 1);
    }

    @Says(where = "Terms", sentence = "a GRADE (0 .. 4)")
    static void gradesOfThings(Due due) {
        PairedTrees x = new PairedTrees();
        due.is("grade -1", x.thing(0, -1), OUTSIDE);
        due.is("grade 0", x.thing(0, 0), 0);
        due.is("grade 4", x.thing(0, 4), 1);
        due.is("grade 5", x.thing(0, 5), OUTSIDE);
        due.is("4 less 0", x.push(1), 4);
    }

    @Says(where = "Terms", sentence = "four FEATURES, 0 .. 3")
    static void numbersOfFeatures(Due due) {
        PairedTrees x = new PairedTrees();
        x.thing(0, 0);
        due.is("feature -1", x.feature(0, -1, 1), OUTSIDE);
        for (int f = 0; f < 4; f++) {
            due.is("feature " + f, x.feature(0, f, 10 + f), 0);
        }
        due.is("feature 4", x.feature(0, 4, 1), OUTSIDE);
        for (int f = 0; f < 4; f++) {
            due.is("each is by itself, " + f, x.told(0, f), 10 + f);
        }
    }

    @Says(where = "Terms", sentence = "each a number, -1000 .. 1000")
    static void numbersInFeatures(Due due) {
        PairedTrees x = new PairedTrees();
        x.thing(0, 0);
        due.is("-1001", x.feature(0, 0, -1001), OUTSIDE);
        due.is("-1000", x.feature(0, 0, -1000), 0);
        due.is("told -1000", x.told(0, 0), -1000);
        due.is("1001", x.feature(0, 0, 1001), OUTSIDE);
        due.is("1000", x.feature(0, 0, 1000), 1);
        due.is("told 1000", x.told(0, 0), 1000);
    }

    @Says(where = "Terms", sentence = "or MISSING (at first)")
    static void featuresMissAtFirst(Due due) {
        PairedTrees x = Scenes.full();
        for (int thing : new int[] {0, 23}) {
            for (int f = 0; f < 4; f++) {
                due.is("thing " + thing + " misses " + f, x.miss(thing, f), 0);
            }
        }
    }

    // ---- PAIRS

    @Says(where = "Terms", sentence = "A PAIR are two THINGS i, j of one LIST")
    static void pairsAreOfOneList(Due due) {
        PairedTrees x = new PairedTrees();
        x.thing(0, 0);
        due.is("one thing alone", x.pairs(NONE, 0), 0);
        x.thing(1, 4);
        x.thing(2, 3);
        x.thing(3, 2);
        due.is("each of its own list", x.pairs(NONE, 0), 0);
        x.thing(0, 1);
        due.is("two of one list", x.pairs(NONE, 0), 1);
    }

    @Says(where = "Terms", sentence = "the GRADE of i being above that of j")
    static void pairsAreOfTwoGrades(Due due) {
        PairedTrees x = new PairedTrees();
        x.thing(0, 2);
        x.thing(0, 2);
        due.is("the same grade", x.pairs(0, 0), 0);
        x.grade(0, 3);
        due.is("one above", x.pairs(0, 0), 1);
        x.grade(0, 1);
        due.is("one below: the other way round", x.pairs(0, 0), 1);
        x.grade(0, 4);
        x.grade(1, 0);
        due.is("four above", x.pairs(0, 0), 1);
    }

    @Says(where = "Terms", sentence = "it is WRONG if the SCORE of i is not above that of j")
    static void wrongPairs(Due due) {
        PairedTrees x = Scenes.oneApart();
        due.is("0 is not above 0", x.pairs(0, 1), 1);
        x.grow();
        due.is("score of i", x.score(1), 0);
        due.is("score of j", x.score(0), -1);
        due.is("0 is above -1", x.pairs(0, 1), 0);
        x.grade(0, 1);
        x.grade(1, 0);
        due.is("-1 is not above 0", x.pairs(0, 1), 1);
    }

    // ---- SETTINGS

    private static void settingGoesFrom(Due due, int what, int least, int most, int first) {
        PairedTrees x = new PairedTrees();
        due.is("one too small", x.setting(what, least - 1), OUTSIDE);
        due.is("one too large", x.setting(what, most + 1), OUTSIDE);
        due.is("to the least, from the first", x.setting(what, least), first);
        due.is("to the most, from the least", x.setting(what, most), least);
        due.is("back to the first, from the most", x.setting(what, first), most);
    }

    @Says(where = "Terms", sentence = "0 MARGIN (0 .. 1000, at first 10)")
    static void rangeOfMargin(Due due) {
        settingGoesFrom(due, 0, 0, 1000, 10);
    }

    @Says(where = "Terms", sentence = "1 STEP (1 .. 100, 10)")
    static void rangeOfStep(Due due) {
        settingGoesFrom(due, 1, 1, 100, 10);
    }

    @Says(where = "Terms", sentence = "2 DEPTH (1 .. 3, 2)")
    static void rangeOfDepth(Due due) {
        settingGoesFrom(due, 2, 1, 3, 2);
    }

    @Says(where = "Terms", sentence = "3 LEAST (1 .. 8, 1)")
    static void rangeOfLeast(Due due) {
        settingGoesFrom(due, 3, 1, 8, 1);
    }

    // ---- TREES and CUTS

    @Says(where = "Terms", sentence = "TREES, 20 at most")
    static void twentyTrees(Due due) {
        PairedTrees x = new PairedTrees();
        x.thing(0, 0);
        for (int tree = 0; tree < 20; tree++) {
            due.is("tree " + tree, x.grow(), 1);
        }
        due.is("the 21st", x.grow(), FULL);
        due.is("how many", x.about(1), 20);
    }

    @Says(where = "Terms", sentence = "have NODES: 0")
    static void everyTreeHasNodeNought(Due due) {
        PairedTrees x = Scenes.twentyTrees();
        for (int tree = 0; tree < 20; tree++) {
            due.is("node 0 of tree " + tree, x.node(tree, 0, IS_CUT), 0);
            due.is("it alone, of tree " + tree, x.node(tree, 1, IS_CUT), UNKNOWN);
        }
    }

    @Says(where = "Terms", sentence = "below NODE k 2 k + 1 (left) and 2 k + 2 (right), if it is CUT")
    static void nodesBelowCuts(Due due) {
        PairedTrees x = Scenes.eight();
        x.setting(DEPTH, 3);
        x.grow();
        int[] held = {8, 4, 4, 2, 2, 2, 2, 1, 1, 1, 1, 1, 1, 1, 1};
        int[] limits = {300, 100, 500, 0, 200, 400, 600};
        for (int k = 0; k < 15; k++) {
            due.is("node " + k + " is cut", x.node(0, k, IS_CUT), k < 7 ? 1 : 0);
            due.is("node " + k + " held", x.node(0, k, HELD), held[k]);
        }
        for (int k = 0; k < 7; k++) {
            due.is("node " + k + " is cut at", x.node(0, k, NUMBER), limits[k]);
        }
        due.is("no node is below the lowest", x.node(0, 15, IS_CUT), UNKNOWN);
    }

    @Says(where = "Terms", sentence = "others are LEAVES")
    static void nothingIsBelowLeaves(Due due) {
        PairedTrees x = Scenes.three();
        // Thing 1 stands alone at node 1; node 2 is cut once more.
        due.is("leaves", x.grow(), 3);
        int[] isCut = {1, 0, 1, UNKNOWN, UNKNOWN, 0, 0, UNKNOWN, UNKNOWN, UNKNOWN, UNKNOWN, UNKNOWN, UNKNOWN,
            UNKNOWN, UNKNOWN};
        for (int k = 0; k < 15; k++) {
            due.is("node " + k, x.node(0, k, IS_CUT), isCut[k]);
        }
    }

    @Says(where = "Terms", sentence = "what has c or less goes left, more right")
    static void waysOfACut(Due due) {
        PairedTrees x = Scenes.two();
        x.grow();
        due.is("c", x.node(0, 0, NUMBER), 2);
        int[] numbers = {-1000, 1, 2, 3, 1000};
        int[] values = {-20, -20, -20, 20, 20};
        for (int i = 0; i < 5; i++) {
            x.feature(NONE, 0, numbers[i]);
            due.is("what has " + numbers[i], x.value(0, NONE), values[i]);
        }
    }

    @Says(where = "Terms", sentence = "A CUT is by a FEATURE f, a number c and a SIDE")
    static void cutsAtTheEndsOfNumbers(Due due) {
        PairedTrees x = Scenes.row(new int[] {1, 0}, new int[] {-999, -1000});
        x.grow();
        due.is("c is -1000", x.node(0, 0, NUMBER), -1000);
        due.is("-1000 goes left", x.value(0, 1), -10);
        due.is("-999 goes right", x.value(0, 0), 10);
        PairedTrees y = new PairedTrees();
        y.thing(0, 1);
        y.thing(0, 0);
        y.feature(0, 3, 1000);
        y.grow();
        due.is("f is 3", y.node(0, 0, FEATURE), 3);
        due.is("c is 1000", y.node(0, 0, NUMBER), 1000);
        due.is("SIDE is 1", y.node(0, 0, SIDE), 1);
        due.is("1000 goes left", y.value(0, 0), 10);
    }

    @Says(where = "Terms", sentence = "what has f MISSING left (SIDE 0)")
    static void missingGoesLeft(Due due) {
        PairedTrees x = new PairedTrees();
        x.thing(0, 0);
        x.thing(0, 4);
        x.thing(0, 0);
        x.feature(0, 0, 3);
        x.feature(1, 0, 8);
        // Pushes -4, 8, -4: thing 2, which misses it, goes with thing 0.
        due.is("leaves", x.grow(), 2);
        due.is("SIDE", x.node(0, 0, SIDE), 0);
        due.is("how many went left", x.node(0, 1, HELD), 2);
        due.is("a thing that misses it", x.value(0, 2), -40);
        due.is("the probe misses it", x.value(0, NONE), -40);
    }

    @Says(where = "Terms", sentence = "or right (1)")
    static void missingGoesRight(Due due) {
        PairedTrees x = new PairedTrees();
        x.thing(0, 4);
        x.thing(0, 0);
        x.thing(0, 4);
        x.feature(0, 0, 8);
        x.feature(1, 0, 3);
        // Pushes 4, -8, 4: thing 2, which misses it, goes with thing 0.
        due.is("leaves", x.grow(), 2);
        due.is("SIDE", x.node(0, 0, SIDE), 1);
        due.is("how many went right", x.node(0, 2, HELD), 2);
        due.is("a thing that misses it", x.value(0, 2), 40);
        due.is("the probe misses it", x.value(0, NONE), 40);
    }

    @Says(where = "Terms", sentence = "Each LEAF has a VALUE.")
    static void leavesOfNought(Due due) {
        PairedTrees x = new PairedTrees();
        x.thing(0, 4);
        x.grow();
        due.is("one thing has no pair: 0", x.node(0, 0, VALUE), 0);
        due.is("and so has its tree", x.value(0, 0), 0);
    }

    @Says(where = "Terms",
            sentence = "The VALUE of a TREE for some FEATURES is that of the LEAF to which they lead.")
    static void valuesOfTheLowestLeaves(Due due) {
        PairedTrees x = Scenes.eight();
        x.setting(DEPTH, 3);
        x.grow();
        int[] values = {90, 80, 40, 10, -30, -40, -70, -80};
        for (int i = 0; i < 8; i++) {
            due.is("thing " + i, x.value(0, i), values[i]);
            x.feature(NONE, 1, 100 * i - 99);
            due.is("the probe in its place, " + i, x.value(0, NONE), values[i]);
        }
        x.feature(NONE, 1, 1000);
        due.is("farther than any thing, right", x.value(0, NONE), -80);
        x.feature(NONE, 1, -1000);
        due.is("farther than any thing, left", x.value(0, NONE), 90);
    }

    @Says(where = "Terms",
            sentence = "A THING's SCORE is the sum of the VALUES of all TREES for its FEATURES, as all are now.")
    static void scoresFromNoTreeToTwenty(Due due) {
        PairedTrees x = Scenes.eight();
        x.setting(MARGIN, 1000);
        x.setting(STEP, 1);
        x.setting(DEPTH, 3);
        due.is("no tree", x.score(0), 0);
        // After 20 trees scores lie 20 * 17 apart at most, so that all pairs still push.
        for (int tree = 0; tree < 20; tree++) {
            x.grow();
            due.is("trees up to " + tree, x.score(0), 9 * (tree + 1));
        }
        due.is("the least of 20", x.score(7), -160);
        x.feature(0, 1, 700);
        due.is("its features as they are now", x.score(0), -160);
        x.cut();
        due.is("the trees as they are now", x.score(0), -152);
    }

    // ---- GROWING

    @Says(where = "Terms", sentence = "if the SCORE of i less that of j is below MARGIN")
    static void pushesBelowMargin(Due due) {
        PairedTrees x = Scenes.two();
        x.setting(MARGIN, 0);
        due.is("0 is not below 0", x.push(0), 0);
        x.setting(MARGIN, 1);
        due.is("0 is below 1", x.push(0), 2);
        x.grow();
        x.setting(MARGIN, 40);
        due.is("40 is not below 40", x.push(0), 0);
        x.setting(MARGIN, 41);
        due.is("40 is below 41", x.push(0), 2);
    }

    @Says(where = "Terms", sentence = "if the SCORE of i less that of j is below MARGIN")
    static void pushesBelowNought(Due due) {
        PairedTrees x = Scenes.oneApart();
        x.grow();
        x.setting(MARGIN, 0);
        due.is("1 is not below 0", x.push(1), 0);
        x.grade(0, 1);
        x.grade(1, 0);
        due.is("-1 is below 0", x.push(0), 1);
    }

    @Says(where = "Terms", sentence = "if the SCORE of i less that of j is below MARGIN")
    static void pushesBelowTheGreatestMargin(Due due) {
        PairedTrees x = Scenes.row(new int[] {1, 0}, new int[] {2, 1});
        x.setting(MARGIN, 1000);
        int[] steps = {100, 100, 100, 100, 99};
        for (int step : steps) {
            x.setting(STEP, step);
            x.grow();
        }
        due.is("998 is below 1000", x.push(0), 1);
        x.cut();
        x.setting(STEP, 100);
        x.grow();
        due.is("1000 is not below 1000", x.push(0), 0);
    }

    @Says(where = "Terms", sentence = "the GRADE of i less that of j, for i added, for j taken off")
    static void pushesOfTwentyFour(Due due) {
        PairedTrees x = new PairedTrees();
        x.thing(0, 4);
        for (int i = 1; i < 24; i++) {
            x.thing(0, 0);
        }
        due.is("above 23 by 4", x.push(0), 92);
        due.is("below one by 4", x.push(23), -4);
        for (int i = 0; i < 24; i++) {
            x.grade(i, i == 0 ? 0 : 4);
        }
        due.is("below 23 by 4", x.push(0), -92);
        x.grade(0, 2);
        x.grade(23, 0);
        due.is("below 22 by 2, above one by 2", x.push(0), -42);
    }

    @Says(where = "Terms", sentence = "over all PAIRS i, j in which it is")
    static void pushesOfNoPair(Due due) {
        PairedTrees x = new PairedTrees();
        x.thing(0, 4);
        due.is("alone", x.push(0), 0);
        x.thing(0, 4);
        x.thing(1, 0);
        due.is("of one grade with the others of its list", x.push(0), 0);
        due.is("alone in its list", x.push(2), 0);
    }

    @Says(where = "Terms", sentence = "NODE 0 holds all THINGS.")
    static void nodeNoughtHoldsAll(Due due) {
        PairedTrees x = new PairedTrees();
        x.thing(2, 0);
        x.grow();
        due.is("one", x.node(0, 0, HELD), 1);
        PairedTrees y = Scenes.full();
        y.feature(NONE, 0, 1);
        y.grow();
        due.is("24 of four lists, and no probe", y.node(0, 0, HELD), 24);
    }

    @Says(where = "Terms", sentence = "CUTS of it are those by any f and SIDE")
    static void cutsByAnyFeatureAndSide(Due due) {
        for (int f = 0; f < 4; f++) {
            PairedTrees x = new PairedTrees();
            x.thing(0, 1);
            x.thing(0, 0);
            due.is("no number at all: no cut", x.grow(), 1);
            x.feature(0, f, 0);
            due.is("one number by feature " + f, x.grow(), 2);
            due.is("f", x.node(1, 0, FEATURE), f);
            due.is("SIDE", x.node(1, 0, SIDE), 1);
        }
    }

    @Says(where = "Terms", sentence = "c being a number that one of these THINGS has for f")
    static void numbersOfThingsElsewhere(Due due) {
        PairedTrees x = new PairedTrees();
        int[] grades = {0, 0, 4, 3};
        for (int i = 0; i < 4; i++) {
            x.thing(0, grades[i]);
            x.feature(i, 0, i < 2 ? 1 : 2);
        }
        x.feature(0, 1, 2);
        x.feature(1, 1, 2);
        x.feature(2, 1, 5);
        // Pushes -7, -7, 9, 5. At node 2, by feature 1, a 2 would part things 2 and 3 as well, and be less.
        due.is("leaves", x.grow(), 3);
        due.is("node 0 is cut by feature 0", x.node(0, 0, FEATURE), 0);
        due.is("node 2 is cut by feature 1", x.node(0, 2, FEATURE), 1);
        due.is("at a number of its own", x.node(0, 2, NUMBER), 5);
        due.is("what misses right", x.node(0, 2, SIDE), 1);
    }

    @Says(where = "Terms", sentence = "c being a number that one of these THINGS has for f")
    static void numberOfTheProbe(Due due) {
        PairedTrees x = new PairedTrees();
        x.thing(0, 1);
        x.thing(0, 0);
        x.feature(0, 0, 5);
        x.feature(NONE, 0, 2);
        x.grow();
        due.is("not the probe's", x.node(0, 0, NUMBER), 5);
        due.is("what misses right", x.node(0, 0, SIDE), 1);
    }

    @Says(where = "Terms", sentence = "that lead LEAST THINGS or more to each side")
    static void leastToEachSide(Due due) {
        PairedTrees x = Scenes.four();
        x.setting(DEPTH, 1);
        x.setting(LEAST, 1);
        due.is("one to a side", x.grow(), 2);
        due.is("gains most", x.node(0, 0, NUMBER), 1);
        x.cut();
        x.setting(LEAST, 2);
        due.is("two to each side", x.grow(), 2);
        due.is("is the next best", x.node(0, 0, NUMBER), 2);
        x.cut();
        x.setting(LEAST, 3);
        due.is("three to each side are not there", x.grow(), 1);
    }

    @Says(where = "Terms", sentence = "that lead LEAST THINGS or more to each side")
    static void leastToTheRightSide(Due due) {
        PairedTrees x = Scenes.row(new int[] {4, 0, 0, 0}, new int[] {4, 3, 2, 1});
        x.setting(DEPTH, 1);
        x.grow();
        due.is("one to the right gains most", x.node(0, 0, NUMBER), 3);
        x.cut();
        x.setting(LEAST, 2);
        x.grow();
        due.is("two to the right are the next best", x.node(0, 0, NUMBER), 2);
    }

    @Says(where = "Terms", sentence = "that lead LEAST THINGS or more to each side")
    static void leastOfEight(Due due) {
        PairedTrees x = new PairedTrees();
        x.setting(LEAST, 8);
        for (int i = 0; i < 15; i++) {
            x.thing(0, i == 0 ? 1 : 0);
            x.feature(i, 0, i);
        }
        due.is("15 cannot be parted", x.grow(), 1);
        x.cut();
        x.thing(0, 0);
        x.feature(15, 0, 15);
        due.is("16 can, once", x.grow(), 2);
        due.is("in the middle", x.node(0, 0, NUMBER), 7);
    }

    @Says(where = "Terms", sentence = "The GAIN of a CUT is L L / l + R R / r - S S / n")
    static void gainWhereSIsNotNought(Due due) {
        PairedTrees x = Scenes.three();
        x.grow();
        due.is("node 0: 9 / 1 + 9 / 2 - 0, upper", x.gain(0, 0, 0), 27);
        due.is("lower", x.gain(0, 0, 1), 2);
        due.is("node 2: 0 / 1 + 9 / 1 - 9 / 2, upper", x.gain(0, 2, 0), 9);
        due.is("lower", x.gain(0, 2, 1), 2);
    }

    @Says(where = "Terms", sentence = "If the NODE lies less than DEPTH below NODE 0")
    static void depthsOfCuts(Due due) {
        PairedTrees x = Scenes.sixteen();
        int[][] values = {{50, -50}, {75, 25, -25, -75}, {85, 65, 35, 15, -15, -35, -65, -85}};
        for (int depth = 1; depth <= 3; depth++) {
            x.setting(DEPTH, depth);
            int leaves = 1 << depth;
            due.is("leaves at depth " + depth, x.grow(), leaves);
            due.is("the last one cut", x.node(0, leaves - 2, IS_CUT), 1);
            for (int i = 0; i < leaves; i++) {
                due.is("leaf " + i + " has more than one", x.node(0, leaves - 1 + i, HELD), 16 / leaves);
                due.is("leaf " + i + " is not cut", x.node(0, leaves - 1 + i, VALUE), values[depth - 1][i]);
            }
            due.is("nothing below", x.node(0, 2 * leaves - 1, IS_CUT), UNKNOWN);
            x.cut();
        }
    }

    @Says(where = "Terms", sentence = "and a CUT has a GAIN above 0")
    static void gainsOfNought(Due due) {
        PairedTrees x = new PairedTrees();
        for (int i = 0; i < 4; i++) {
            x.thing(0, i < 2 ? 4 : 0);
            x.feature(i, 1, i % 2);
        }
        // Pushes 8, 8, -8, -8: feature 1 puts one of each to each side.
        due.is("0 / 2 + 0 / 2 - 0: a leaf", x.grow(), 1);
        x.cut();
        for (int i = 0; i < 4; i++) {
            x.feature(i, 0, i < 2 ? 9 : 1);
        }
        due.is("by feature 0, then 64 / 1 + 64 / 1 - 256 / 2: leaves", x.grow(), 2);
    }

    @Says(where = "Terms", sentence = "and a CUT has a GAIN above 0")
    static void gainsBelowOne(Due due) {
        PairedTrees x = new PairedTrees();
        int[] lists = {1, 1, 0, 0};
        int[] grades = {2, 2, 3, 4};
        int[] numbers = {2, 1, 1, 3};
        for (int i = 0; i < 4; i++) {
            x.thing(lists[i], grades[i]);
            x.feature(i, 0, numbers[i]);
        }
        // Pushes 0, 0, -1, 1: thing 3 parts first, then 1 and 2 from 0.
        due.is("leaves", x.grow(), 3);
        due.is("1 / 2 + 0 / 1 - 1 / 3, upper", x.gain(0, 1, 0), 1);
        due.is("lower", x.gain(0, 1, 1), 6);
    }

    @Says(where = "Terms", sentence = "it is CUT by that of the greatest GAIN")
    static void theGreatestGain(Due due) {
        PairedTrees x = Scenes.four();
        int[] first = {1, 1, 2, 2};
        int[] last = {2, 1, 1, 1};
        for (int i = 0; i < 4; i++) {
            x.feature(i, 0, first[i]);
            x.feature(i, 3, last[i]);
        }
        // Pushes 12, -4, -4, -4: by feature 0 64 / 2 + 64 / 2, by feature 3 144 / 3 + 144 / 1.
        x.grow();
        due.is("by feature 3", x.node(0, 0, FEATURE), 3);
        due.is("gain", x.gain(0, 0, 0), 192);
    }

    @Says(where = "What it is", sentence = "each cut the best there is, exactly")
    static void gainsAsEqualAsTheyAre(Due due) {
        PairedTrees x = new PairedTrees();
        int[] grades = {0, 1, 1, 3, 2};
        int[][] numbers = {{2, 3}, {1, 1}, {3, 2}, {2, 3}, {2, 1}};
        for (int i = 0; i < 5; i++) {
            x.thing(1, grades[i]);
            x.feature(i, 0, numbers[i][0]);
            x.feature(i, 1, numbers[i][1]);
        }
        // Node 2 has things 0, 2, 3, 4 of pushes -7, -2, 8, 3. By feature 0 at 2: 16 / 3 + 4 / 1 - 4 / 4; by
        // feature 1 at 1: 9 / 1 + 1 / 3 - 4 / 4. Both are 25 / 3, but as doubles the second is the greater.
        x.grow();
        due.is("gain, upper", x.gain(0, 2, 0), 25);
        due.is("gain, lower", x.gain(0, 2, 1), 3);
        due.is("of equal ones the least f", x.node(0, 2, FEATURE), 0);
        due.is("c", x.node(0, 2, NUMBER), 2);
    }

    @Says(where = "Terms", sentence = "of several by that of the least f")
    static void equalGainsByFeature(Due due) {
        PairedTrees x = Scenes.two();
        for (int f = 1; f < 4; f++) {
            x.feature(0, f, -999);
            x.feature(1, f, -1000);
        }
        x.grow();
        due.is("f goes before c", x.node(0, 0, FEATURE), 0);
        x.cut();
        x.miss(1, 0);
        x.grow();
        due.is("f goes before SIDE", x.node(0, 0, FEATURE), 0);
        due.is("SIDE", x.node(0, 0, SIDE), 1);
    }

    @Says(where = "Terms", sentence = "then c")
    static void equalGainsByNumber(Due due) {
        PairedTrees x = Scenes.row(new int[] {0, 1, 2}, new int[] {3, 2, 1});
        x.thing(0, 1);
        // Pushes -4, 0, 4, 0. Thing 2 alone left (1, SIDE 1) and thing 0 alone right (2, SIDE 0) gain 64 / 3.
        x.grow();
        due.is("c goes before SIDE", x.node(0, 0, NUMBER), 1);
        due.is("SIDE", x.node(0, 0, SIDE), 1);
        due.is("gain, upper", x.gain(0, 0, 0), 64);
        due.is("gain, lower", x.gain(0, 0, 1), 3);
    }

    @Says(where = "Terms", sentence = "then SIDE")
    static void equalGainsBySide(Due due) {
        PairedTrees x = Scenes.two();
        x.grow();
        due.is("with none that misses it", x.node(0, 0, SIDE), 0);
        x.thing(0, 2);
        x.cut();
        // Pushes 3, -3, 0: thing 2, which misses it, may go with either.
        x.grow();
        due.is("with one of push 0 that misses it", x.node(0, 0, SIDE), 0);
        due.is("it went left", x.node(0, 1, HELD), 2);
    }

    @Says(where = "Terms", sentence = "else it is a LEAF: its VALUE is STEP S / n, rounded down.")
    static void valuesRoundedDown(Due due) {
        int[][] stepAndValue = {{1, -2}, {2, -3}, {3, -5}, {100, -150}};
        for (int[] s : stepAndValue) {
            PairedTrees x = Scenes.three();
            x.setting(DEPTH, 1);
            x.setting(STEP, s[0]);
            x.grow();
            due.is(s[0] + " * -3 / 2", x.node(0, 2, VALUE), s[1]);
        }
        PairedTrees y = Scenes.three();
        y.grade(1, 0);
        y.grade(2, 2);
        y.setting(DEPTH, 1);
        y.setting(STEP, 3);
        y.grow();
        due.is("3 * 3 / 2", y.node(0, 2, VALUE), 4);
    }

    // ---- THE PROBE

    @Says(where = "Terms", sentence = "THE PROBE has four FEATURES, too, at first MISSING.")
    static void theProbe(Due due) {
        PairedTrees x = new PairedTrees();
        for (int f = 0; f < 4; f++) {
            due.is("it misses " + f, x.miss(NONE, f), 0);
            due.is("it has " + f, x.feature(NONE, f, f), 0);
        }
        due.is("it has no feature -1", x.feature(NONE, -1, 0), OUTSIDE);
        due.is("it has no feature 4", x.feature(NONE, 4, 0), OUTSIDE);
        for (int f = 0; f < 4; f++) {
            due.is("each is by itself, " + f, x.miss(NONE, f), 1);
        }
        due.is("it is no thing", x.about(0), 0);
    }

    // ---- Refusals

    @Says(where = "Terms", sentence = "of several the one told first")
    static void unknownBeforeOutside(Due due) {
        PairedTrees x = Scenes.two();
        x.grow();
        due.is("grade", x.grade(2, 5), UNKNOWN);
        due.is("feature, by its number", x.feature(2, 4, 0), UNKNOWN);
        due.is("feature, by what it should be", x.feature(2, 0, 1001), UNKNOWN);
        due.is("miss", x.miss(2, 4), UNKNOWN);
        due.is("node, by the tree", x.node(1, 0, 6), UNKNOWN);
        due.is("node, by the node", x.node(0, 3, 6), UNKNOWN);
        due.is("gain, by the tree", x.gain(1, 0, 2), UNKNOWN);
        due.is("gain, by the node", x.gain(0, 3, 2), UNKNOWN);
        due.is("gain, by the leaf", x.gain(0, 1, 2), UNKNOWN);
    }

    @Says(where = "Terms", sentence = "of several the one told first")
    static void outsideBeforeFull(Due due) {
        PairedTrees x = Scenes.full();
        due.is("no list", x.thing(4, 0), OUTSIDE);
        due.is("no grade", x.thing(0, 5), OUTSIDE);
        due.is("neither", x.thing(-1, -1), OUTSIDE);
    }

    @Says(where = "Terms", sentence = "UNKNOWN (a number names nothing)")
    static void numbersFarOff(Due due) {
        PairedTrees x = Scenes.busy();
        for (int off : new int[] {LOWEST, LOWEST + 1, -1000, -2, 2, 20, 24, 1 << 28, 1 << 30, HIGHEST - 1, HIGHEST}) {
            due.is("grade of " + off, x.grade(off, 0), UNKNOWN);
            due.is("feature of " + off, x.feature(off, 0, 0), UNKNOWN);
            due.is("miss of " + off, x.miss(off, 0), UNKNOWN);
            due.is("node of tree " + off, x.node(off, 0, 0), UNKNOWN);
            due.is("gain of tree " + off, x.gain(off, 0, 0), UNKNOWN);
            due.is("score of " + off, x.score(off), UNKNOWN);
            due.is("value of tree " + off, x.value(off, 0), UNKNOWN);
            due.is("value for " + off, x.value(0, off), UNKNOWN);
            due.is("push of " + off, x.push(off), UNKNOWN);
        }
    }

    @Says(where = "Terms", sentence = "They change nothing")
    static void unknownChangesNothing(Due due) {
        Scenes.changesNothing(due, Scenes::busy, x -> {
            for (int off : new int[] {-2, 2, 24}) {
                due.is("grade", x.grade(off, 0), UNKNOWN);
                due.is("feature", x.feature(off, 0, 0), UNKNOWN);
                due.is("miss", x.miss(off, 0), UNKNOWN);
                due.is("score", x.score(off), UNKNOWN);
                due.is("value", x.value(0, off), UNKNOWN);
                due.is("push", x.push(off), UNKNOWN);
                due.is("node", x.node(off, 0, 0), UNKNOWN);
                due.is("gain", x.gain(off, 0, 0), UNKNOWN);
            }
        });
    }

    @Says(where = "Terms", sentence = "They change nothing")
    static void outsideChangesNothing(Due due) {
        Scenes.changesNothing(due, Scenes::busy, x -> {
            for (int off : new int[] {LOWEST, -1001, 1001, HIGHEST}) {
                due.is("thing", x.thing(off, 0), OUTSIDE);
                due.is("thing's grade", x.thing(0, off), OUTSIDE);
                due.is("grade", x.grade(0, off), OUTSIDE);
                due.is("feature", x.feature(0, off, 0), OUTSIDE);
                due.is("number", x.feature(0, 0, off), OUTSIDE);
                due.is("the probe's feature", x.feature(NONE, off, 0), OUTSIDE);
                due.is("the probe's number", x.feature(NONE, 0, off), OUTSIDE);
                due.is("miss", x.miss(0, off), OUTSIDE);
                due.is("the probe's miss", x.miss(NONE, off), OUTSIDE);
                due.is("setting", x.setting(off, 1), OUTSIDE);
                due.is("margin", x.setting(MARGIN, off), OUTSIDE);
                due.is("step", x.setting(STEP, off), OUTSIDE);
                due.is("depth", x.setting(DEPTH, off), OUTSIDE);
                due.is("least", x.setting(LEAST, off), OUTSIDE);
                due.is("node", x.node(0, 0, off), OUTSIDE);
                due.is("gain", x.gain(0, 0, off), OUTSIDE);
                due.is("ranked", x.ranked(off, 0), OUTSIDE);
                due.is("pairs", x.pairs(off, 0), OUTSIDE);
                due.is("share", x.share(off), OUTSIDE);
                due.is("about", x.about(off), OUTSIDE);
            }
        });
    }

    @Says(where = "Terms", sentence = "They change nothing")
    static void fullChangesNothing(Due due) {
        Scenes.changesNothing(due, Scenes::full, x -> due.is("thing", x.thing(0, 4), FULL));
        Scenes.changesNothing(due, Scenes::twentyTrees, x -> due.is("grow", x.grow(), FULL));
    }

    @Says(where = "Terms", sentence = "They change nothing")
    static void stateChangesNothing(Due due) {
        Scenes.changesNothing(due, PairedTrees::new, x -> due.is("grow", x.grow(), STATE));
        Scenes.changesNothing(due, Scenes::three, x -> due.is("cut", x.cut(), STATE));
    }

    @Says(where = "Terms", sentence = "nor does what throws")
    static void throwingChangesNothing(Due due) {
        Scenes.changesNothing(due, Scenes::busy, x -> {
            due.isThrown("no such number", ArrayIndexOutOfBoundsException.class, () -> x.told(24, 0));
            due.isThrown("no such thing", NullPointerException.class, () -> x.told(2, 0));
            due.isThrown("no such feature", ArrayIndexOutOfBoundsException.class, () -> x.told(0, 4));
            due.isThrown("missing", NullPointerException.class, () -> x.told(0, 1));
            due.isThrown("no pairs", ArithmeticException.class, () -> x.share(3));
        });
    }
}
