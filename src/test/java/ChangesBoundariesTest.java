/** The sentences of promises 1 to 9 and 19, the calls that change things: one test for each boundary case. */
public final class ChangesBoundariesTest {
    private static final int NONE = -1;
    private static final int UNKNOWN = -10001;
    private static final int OUTSIDE = -10002;
    private static final int FULL = -10003;
    private static final int STATE = -10004;
    private static final int LOWEST = Integer.MIN_VALUE;
    private static final int HIGHEST = Integer.MAX_VALUE;

    private static final Class<NullPointerException> NOTHING_THERE = NullPointerException.class;
    private static final Class<ArrayIndexOutOfBoundsException> NO_NUMBER = ArrayIndexOutOfBoundsException.class;

    public static void main(String[] args) throws IllegalAccessException {
        SaidTests.run(ChangesBoundariesTest.class);
    }

    // ---- 1 A new object

    @Says(where = "Promise 1: A new object", sentence = "No THINGS, no TREES.")
    static void newObjectIsEmpty(Due due) {
        PairedTrees x = new PairedTrees();
        for (int what : new int[] {0, 1, 2, 10, 11, 12, 13}) {
            due.is("about " + what, x.about(what), 0);
        }
        due.is("no thing 0", x.score(0), UNKNOWN);
        due.is("no tree 0", x.node(0, 0, 0), UNKNOWN);
        due.is("no one is ranked", x.ranked(0, 0), NONE);
        due.is("no pairs", x.pairs(NONE, 0), 0);
    }

    @Says(where = "Promise 1: A new object", sentence = "No THINGS, no TREES.")
    static void newObjectsAreApart(Due due) {
        PairedTrees first = Scenes.busy();
        PairedTrees second = new PairedTrees();
        due.is("the second has no things", second.about(0), 0);
        due.is("the second has no trees", second.about(1), 0);
        second.thing(1, 1);
        second.clear();
        due.check("all that shows of the first", Scenes.allThatShows(first), Scenes.allThatShows(Scenes.busy()));
    }

    // ---- 2 thing

    @Says(where = "Promise 2: thing", sentence = "A THING comes: its number.")
    static void thingFirstAndLast(Due due) {
        PairedTrees x = new PairedTrees();
        due.is("the first", x.thing(0, 0), 0);
        for (int i = 1; i < 23; i++) {
            x.thing(0, 0);
        }
        due.is("the last", x.thing(3, 4), 23);
        due.is("its grade", x.grade(23, 4), 4);
        due.is("its list", x.ranked(3, 0), 23);
    }

    @Says(where = "Promise 2: thing", sentence = "OUTSIDE.")
    static void thingOfNoList(Due due) {
        PairedTrees x = new PairedTrees();
        for (int list : new int[] {LOWEST, -2, NONE, 4, 5, HIGHEST}) {
            due.is("list " + list, x.thing(list, 0), OUTSIDE);
        }
        due.is("none came", x.about(0), 0);
    }

    @Says(where = "Promise 2: thing", sentence = "OUTSIDE.")
    static void thingOfNoGrade(Due due) {
        PairedTrees x = new PairedTrees();
        for (int grade : new int[] {LOWEST, -2, NONE, 5, 6, HIGHEST}) {
            due.is("grade " + grade, x.thing(0, grade), OUTSIDE);
        }
        due.is("none came", x.about(0), 0);
    }

    @Says(where = "Promise 2: thing", sentence = "FULL.")
    static void thingWhenFull(Due due) {
        PairedTrees x = Scenes.full();
        for (int list = 0; list < 4; list++) {
            due.is("for list " + list, x.thing(list, 4), FULL);
        }
        due.is("none came", x.about(0), 24);
        x.clear();
        due.is("room again", x.thing(0, 0), 0);
    }

    // ---- 3 grade

    @Says(where = "Promise 3: grade",
            sentence = "The GRADE of a THING becomes another one (or the same): what it was.")
    static void gradeToTheEnds(Due due) {
        PairedTrees x = Scenes.full();
        for (int thing : new int[] {0, 23}) {
            due.is("to the highest", x.grade(thing, 4), thing % 5);
            due.is("to the same", x.grade(thing, 4), 4);
            due.is("to the lowest", x.grade(thing, 0), 4);
            due.is("to the same", x.grade(thing, 0), 0);
        }
    }

    @Says(where = "Promise 3: grade", sentence = "UNKNOWN")
    static void gradeOfNoThing(Due due) {
        PairedTrees x = new PairedTrees();
        due.is("of the first, before it comes", x.grade(0, 0), UNKNOWN);
        x.thing(0, 2);
        for (int thing : new int[] {LOWEST, -2, NONE, 1, 23, 24, HIGHEST}) {
            due.is("of " + thing, x.grade(thing, 0), UNKNOWN);
        }
        due.is("it stays", x.grade(0, 2), 2);
    }

    @Says(where = "Promise 3: grade", sentence = "OUTSIDE")
    static void gradeToNoGrade(Due due) {
        PairedTrees x = new PairedTrees();
        x.thing(0, 2);
        for (int grade : new int[] {LOWEST, -2, NONE, 5, 6, HIGHEST}) {
            due.is("to " + grade, x.grade(0, grade), OUTSIDE);
        }
        due.is("it stays", x.grade(0, 2), 2);
    }

    // ---- 4 feature

    @Says(where = "Promise 4: feature", sentence = "A FEATURE of a THING (NONE: of THE PROBE) is a number")
    static void featureOfTheProbe(Due due) {
        PairedTrees x = Scenes.full();
        due.is("of the probe", x.feature(NONE, 0, 7), 0);
        due.is("of the last thing", x.feature(23, 3, -7), 0);
        due.is("not of the first thing", x.miss(0, 0), 0);
        due.is("not of the last thing", x.miss(23, 0), 0);
        due.is("not of the probe", x.miss(NONE, 3), 0);
        due.is("the probe has its own", x.miss(NONE, 0), 1);
        due.is("the thing has its own", x.told(23, 3), -7);
    }

    @Says(where = "Promise 4: feature", sentence = "1, 0 if it was MISSING")
    static void featureThatWasMissing(Due due) {
        PairedTrees x = new PairedTrees();
        x.thing(0, 0);
        for (int owner : new int[] {0, NONE}) {
            due.is("at first", x.feature(owner, 0, 0), 0);
            due.is("0 is a number", x.feature(owner, 0, 0), 1);
            due.is("to the least", x.feature(owner, 0, -1000), 1);
            due.is("from the least to the greatest", x.feature(owner, 0, 1000), 1);
            due.is("from the greatest", x.feature(owner, 0, -1), 1);
            due.is("-1 is a number", x.feature(owner, 0, 1), 1);
            x.miss(owner, 0);
            due.is("after a miss", x.feature(owner, 0, 1), 0);
        }
    }

    @Says(where = "Promise 4: feature", sentence = "UNKNOWN")
    static void featureOfNoThing(Due due) {
        PairedTrees x = new PairedTrees();
        due.is("of the first, before it comes", x.feature(0, 0, 0), UNKNOWN);
        x.thing(0, 0);
        for (int thing : new int[] {LOWEST, -2, 1, 23, 24, 25, 1 << 30, HIGHEST}) {
            due.is("of " + thing, x.feature(thing, 0, 0), UNKNOWN);
        }
        due.is("the probe still misses it", x.miss(NONE, 0), 0);
        x.thing(0, 0);
        due.is("and so does the next thing", x.miss(1, 0), 0);
    }

    @Says(where = "Promise 4: feature", sentence = "OUTSIDE (feature, number)")
    static void featureOfNoNumber(Due due) {
        PairedTrees x = Scenes.full();
        for (int owner : new int[] {NONE, 0, 1, 23}) {
            for (int f : new int[] {LOWEST, -4, -1, 4, 8, HIGHEST}) {
                due.is("feature " + f + " of " + owner, x.feature(owner, f, 0), OUTSIDE);
            }
        }
        for (int f = 0; f < 4; f++) {
            due.is("the first thing misses all", x.miss(0, f), 0);
            due.is("the last thing misses all", x.miss(23, f), 0);
            due.is("the probe misses all", x.miss(NONE, f), 0);
        }
    }

    @Says(where = "Promise 4: feature", sentence = "OUTSIDE (feature, number)")
    static void featureFarOff(Due due) {
        PairedTrees x = new PairedTrees();
        x.thing(0, 0);
        x.feature(0, 0, 5);
        for (int v : new int[] {LOWEST, LOWEST + 1, -10001, -1001, 1001, HIGHEST}) {
            due.is("a number of " + v, x.feature(0, 0, v), OUTSIDE);
            due.is("for one that misses it, " + v, x.feature(0, 1, v), OUTSIDE);
            due.is("for the probe, " + v, x.feature(NONE, 2, v), OUTSIDE);
        }
        due.is("the number stays", x.told(0, 0), 5);
        due.is("what was missing still is", x.miss(0, 1), 0);
        due.is("and so for the probe", x.miss(NONE, 2), 0);
    }

    // ---- 5 miss

    @Says(where = "Promise 5: miss", sentence = "A FEATURE of a THING (NONE: of THE PROBE) is MISSING")
    static void missOfTheProbe(Due due) {
        PairedTrees x = Scenes.full();
        for (int owner : new int[] {NONE, 0, 23}) {
            for (int f = 0; f < 4; f++) {
                x.feature(owner, f, 0);
            }
        }
        due.is("of the probe", x.miss(NONE, 0), 1);
        due.is("of the last thing", x.miss(23, 3), 1);
        due.is("the first thing keeps it", x.told(0, 0), 0);
        due.is("the last thing keeps it", x.told(23, 0), 0);
        due.is("the probe keeps it", x.miss(NONE, 3), 1);
        due.isThrown("the last thing misses it", NOTHING_THERE, () -> x.told(23, 3));
    }

    @Says(where = "Promise 5: miss", sentence = "1, 0 if it was so")
    static void missTwice(Due due) {
        PairedTrees x = new PairedTrees();
        x.thing(0, 0);
        for (int owner : new int[] {0, NONE}) {
            due.is("at first", x.miss(owner, 1), 0);
            for (int number : new int[] {-1000, -1, 0, 1, 1000}) {
                x.feature(owner, 1, number);
                due.is("it was " + number, x.miss(owner, 1), 1);
                due.is("once more", x.miss(owner, 1), 0);
            }
        }
    }

    @Says(where = "Promise 5: miss", sentence = "UNKNOWN")
    static void missOfNoThing(Due due) {
        PairedTrees x = new PairedTrees();
        due.is("of the first, before it comes", x.miss(0, 0), UNKNOWN);
        x.thing(0, 0);
        x.feature(0, 0, 1);
        x.feature(NONE, 0, 1);
        for (int thing : new int[] {LOWEST, -2, 1, 23, 24, 25, 1 << 30, HIGHEST}) {
            due.is("of " + thing, x.miss(thing, 0), UNKNOWN);
        }
        due.is("the thing keeps it", x.miss(0, 0), 1);
        due.is("the probe keeps it", x.miss(NONE, 0), 1);
    }

    @Says(where = "Promise 5: miss", sentence = "OUTSIDE")
    static void missOfNoFeature(Due due) {
        PairedTrees x = new PairedTrees();
        x.thing(0, 0);
        x.thing(0, 0);
        for (int f = 0; f < 4; f++) {
            x.feature(0, f, 1);
            x.feature(1, f, 1);
            x.feature(NONE, f, 1);
        }
        for (int f : new int[] {LOWEST, -4, -1, 4, 7, HIGHEST}) {
            due.is("feature " + f, x.miss(0, f), OUTSIDE);
            due.is("of the next thing, feature " + f, x.miss(1, f), OUTSIDE);
            due.is("of the probe, feature " + f, x.miss(NONE, f), OUTSIDE);
        }
        for (int f = 0; f < 4; f++) {
            due.is("the thing keeps all", x.miss(0, f), 1);
            due.is("the next one keeps all", x.miss(1, f), 1);
            due.is("the probe keeps all", x.miss(NONE, f), 1);
        }
    }

    // ---- 6 told

    @Says(where = "Promise 6: told", sentence = "A FEATURE of a THING.")
    static void toldAtTheEnds(Due due) {
        PairedTrees x = Scenes.full();
        x.feature(0, 0, -1000);
        x.feature(23, 3, 1000);
        x.feature(23, 0, 0);
        x.feature(0, 3, -1);
        due.is("the least", x.told(0, 0), -1000);
        due.is("the greatest", x.told(23, 3), 1000);
        due.is("0 is not missing", x.told(23, 0), 0);
        due.is("-1 is not missing", x.told(0, 3), -1);
    }

    @Says(where = "Promise 6: told", sentence = "NullPointerException: it is MISSING")
    static void toldWhatIsMissing(Due due) {
        PairedTrees x = Scenes.full();
        for (int f = 0; f < 4; f++) {
            int feature = f;
            due.isThrown("at first, " + f, NOTHING_THERE, () -> x.told(0, feature));
            due.isThrown("of the last thing, " + f, NOTHING_THERE, () -> x.told(23, feature));
        }
        x.feature(0, 0, 5);
        x.miss(0, 0);
        due.isThrown("once more", NOTHING_THERE, () -> x.told(0, 0));
    }

    @Says(where = "Promise 6: told", sentence = "or there is no such THING (0 .. 23)")
    static void toldOfNoThing(Due due) {
        PairedTrees x = new PairedTrees();
        due.isThrown("thing 0", NOTHING_THERE, () -> x.told(0, 0));
        due.isThrown("thing 23", NOTHING_THERE, () -> x.told(23, 3));
        x.thing(0, 0);
        x.feature(0, 0, 1);
        due.isThrown("thing 1", NOTHING_THERE, () -> x.told(1, 0));
        x.clear();
        due.isThrown("thing 0, gone", NOTHING_THERE, () -> x.told(0, 0));
    }

    @Says(where = "Promise 6: told", sentence = "ArrayIndexOutOfBoundsException: another number.")
    static void toldOfNoNumberOfAThing(Due due) {
        PairedTrees x = Scenes.full();
        x.feature(NONE, 0, 1);
        for (int thing : new int[] {LOWEST, -2, NONE, 24, 25, HIGHEST}) {
            due.isThrown("thing " + thing, NO_NUMBER, () -> x.told(thing, 0));
        }
    }

    @Says(where = "Promise 6: told", sentence = "ArrayIndexOutOfBoundsException: another number.")
    static void toldOfNoNumberOfAFeature(Due due) {
        PairedTrees x = Scenes.full();
        for (int f = 0; f < 4; f++) {
            x.feature(0, f, 1);
            x.feature(1, f, 1);
            x.feature(23, f, 1);
        }
        for (int f : new int[] {LOWEST, -4, -1, 4, 7, HIGHEST}) {
            due.isThrown("of the first thing, feature " + f, NO_NUMBER, () -> x.told(0, f));
            due.isThrown("of the next thing, feature " + f, NO_NUMBER, () -> x.told(1, f));
            due.isThrown("of the last thing, feature " + f, NO_NUMBER, () -> x.told(23, f));
        }
    }

    @Says(where = "Promise 6: told",
            sentence = "(Of several: the THING's number, that there is none, the FEATURE's number, MISSING.)")
    static void toldOfSeveral(Due due) {
        PairedTrees x = new PairedTrees();
        x.thing(0, 0);
        due.isThrown("the thing's number before the feature's", NO_NUMBER, () -> x.told(24, 4));
        due.isThrown("and below", NO_NUMBER, () -> x.told(-1, -1));
        due.isThrown("that there is none before the feature's number", NOTHING_THERE, () -> x.told(1, 4));
        due.isThrown("and below", NOTHING_THERE, () -> x.told(23, -1));
        due.isThrown("the feature's number before that all are missing", NO_NUMBER, () -> x.told(0, 4));
        due.isThrown("and below", NO_NUMBER, () -> x.told(0, -1));
    }

    // ---- 7 setting

    @Says(where = "Promise 7: setting", sentence = "A SETTING: what it was.")
    static void settingToTheSame(Due due) {
        PairedTrees x = new PairedTrees();
        int[] first = {10, 10, 2, 1};
        for (int what = 0; what < 4; what++) {
            due.is("setting " + what + " to the same", x.setting(what, first[what]), first[what]);
            due.is("setting " + what + " to another", x.setting(what, 3), first[what]);
        }
        for (int what = 0; what < 4; what++) {
            due.is("each is by itself, " + what, x.setting(what, 1), 3);
        }
    }

    @Says(where = "Promise 7: setting", sentence = "OUTSIDE.")
    static void settingOfNoNumber(Due due) {
        PairedTrees x = new PairedTrees();
        for (int what : new int[] {LOWEST, -2, NONE, 4, 5, HIGHEST}) {
            due.is("setting " + what, x.setting(what, 1), OUTSIDE);
        }
    }

    @Says(where = "Promise 7: setting", sentence = "OUTSIDE.")
    static void settingFarOff(Due due) {
        PairedTrees x = new PairedTrees();
        int[] least = {0, 1, 1, 1};
        int[] most = {1000, 100, 3, 8};
        int[] first = {10, 10, 2, 1};
        for (int what = 0; what < 4; what++) {
            for (int v : new int[] {LOWEST, least[what] - 2, least[what] - 1, most[what] + 1, HIGHEST}) {
                due.is("setting " + what + " to " + v, x.setting(what, v), OUTSIDE);
            }
            due.is("setting " + what + " stays", x.setting(what, first[what]), first[what]);
        }
    }

    // ---- 8 grow

    @Says(where = "Promise 8: grow", sentence = "A TREE more is grown: how many LEAVES it has.")
    static void growFromOneLeafToEight(Due due) {
        PairedTrees one = new PairedTrees();
        one.thing(0, 0);
        due.is("one thing", one.grow(), 1);
        PairedTrees three = Scenes.three();
        due.is("three things", three.grow(), 3);
        PairedTrees eight = Scenes.eight();
        eight.setting(2, 3);
        eight.setting(0, 1000);
        due.is("eight things", eight.grow(), 8);
        due.is("a tree more, of its own leaves alone", eight.grow(), 8);
        due.is("trees", eight.about(1), 2);
    }

    @Says(where = "Promise 8: grow", sentence = "FULL")
    static void growWhenFull(Due due) {
        PairedTrees x = Scenes.twentyTrees();
        due.is("the 21st", x.grow(), FULL);
        due.is("none came", x.about(1), 20);
        due.is("one goes", x.cut(), 19);
        due.is("room again", x.grow(), 1);
        due.is("full again", x.grow(), FULL);
    }

    @Says(where = "Promise 8: grow", sentence = "STATE: there are no THINGS.")
    static void growOfNothing(Due due) {
        PairedTrees x = new PairedTrees();
        x.feature(NONE, 0, 1);
        due.is("with a probe alone", x.grow(), STATE);
        due.is("none came", x.about(1), 0);
        x.thing(0, 0);
        due.is("one thing is enough", x.grow(), 1);
        x.clear();
        due.is("after a clear", x.grow(), STATE);
    }

    // ---- 9 cut

    @Says(where = "Promise 9: cut", sentence = "The latest TREE goes: how many are left.")
    static void cutFromTwentyToNone(Due due) {
        PairedTrees x = Scenes.twentyTrees();
        for (int left = 19; left >= 0; left--) {
            due.is("one goes", x.cut(), left);
            due.is("it was the latest", x.node(left, 0, 0), UNKNOWN);
            due.is("the one before stays", x.node(left - 1, 0, 0), left > 0 ? 0 : UNKNOWN);
        }
    }

    @Says(where = "Promise 9: cut", sentence = "The latest TREE goes: how many are left.")
    static void cutLeavesNothingBehind(Due due) {
        PairedTrees x = Scenes.eight();
        x.setting(2, 3);
        x.grow();
        x.cut();
        due.is("no leaves", x.about(2), 0);
        due.is("no cuts", x.about(11), 0);
        due.is("no scores", x.score(0), 0);
        x.setting(3, 8);
        due.is("a tree of one leaf in its place", x.grow(), 1);
        for (int k = 1; k < 15; k++) {
            due.is("no node " + k, x.node(0, k, 0), UNKNOWN);
        }
    }

    @Says(where = "Promise 9: cut", sentence = "STATE: there is none.")
    static void cutOfNothing(Due due) {
        PairedTrees x = Scenes.two();
        due.is("none as yet", x.cut(), STATE);
        x.grow();
        due.is("the only one", x.cut(), 0);
        due.is("none any more", x.cut(), STATE);
        due.is("trees", x.about(1), 0);
        due.is("the next is tree 0", x.grow(), 2);
        due.is("and stands there", x.node(0, 0, 0), 1);
    }

    // ---- 19 clear

    @Says(where = "Promise 19: clear", sentence = "how many THINGS there were")
    static void clearFromFullToEmpty(Due due) {
        PairedTrees x = Scenes.full();
        due.is("when full", x.clear(), 24);
        due.is("when empty", x.clear(), 0);
        x.thing(0, 0);
        due.is("of one", x.clear(), 1);
        due.is("of a new object", new PairedTrees().clear(), 0);
    }

    @Says(where = "Promise 19: clear", sentence = "All is as at the beginning")
    static void clearOfAll(Due due) {
        PairedTrees x = Scenes.busy();
        x.clear();
        due.check("all that shows", Scenes.allThatShows(x), Scenes.allThatShows(new PairedTrees()));
    }

    @Says(where = "Promise 19: clear", sentence = "All is as at the beginning")
    static void clearOfSettings(Due due) {
        PairedTrees x = new PairedTrees();
        int[] most = {1000, 100, 3, 8};
        int[] first = {10, 10, 2, 1};
        for (int what = 0; what < 4; what++) {
            x.setting(what, most[what]);
        }
        x.clear();
        for (int what = 0; what < 4; what++) {
            due.is("setting " + what, x.setting(what, 1), first[what]);
        }
    }

    @Says(where = "Promise 19: clear", sentence = "All is as at the beginning")
    static void clearOfFeatures(Due due) {
        PairedTrees x = Scenes.full();
        for (int f = 0; f < 4; f++) {
            x.feature(NONE, f, 9);
            x.feature(0, f, 9);
            x.feature(23, f, 9);
        }
        x.clear();
        for (int i = 0; i < 24; i++) {
            due.is("numbers from 0 on", x.thing(0, 0), i);
        }
        for (int f = 0; f < 4; f++) {
            due.is("the probe misses " + f, x.miss(NONE, f), 0);
            due.is("the first thing misses " + f, x.miss(0, f), 0);
            due.is("the last thing misses " + f, x.miss(23, f), 0);
        }
    }

    @Says(where = "Promise 19: clear", sentence = "All is as at the beginning")
    static void clearOfTrees(Due due) {
        PairedTrees x = Scenes.twentyTrees();
        x.clear();
        due.is("no trees", x.about(1), 0);
        due.is("none to go", x.cut(), STATE);
        x.thing(0, 0);
        for (int tree = 0; tree < 20; tree++) {
            due.is("room for tree " + tree, x.grow(), 1);
        }
        due.is("and no more", x.grow(), FULL);
    }
}
