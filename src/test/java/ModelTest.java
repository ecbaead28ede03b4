import java.util.Random;

/** Runs of 512 calls, drawn from fixed seeds, answered by the class as by the plain model. */
public final class ModelTest {
    private static final int RUNS = 1500;
    private static final int CALLS = 512;
    private static final int[] ODD = {
        Integer.MIN_VALUE, Integer.MIN_VALUE + 1, -10001, -1001, -1000, -3, -2, -1, 0, 1, 2, 3, 4, 5, 6, 7, 8, 9,
        10, 13, 14, 15, 16, 19, 20, 23, 24, 25, 100, 101, 999, 1000, 1001, 1 << 28, 1 << 30,
        Integer.MAX_VALUE - 1, Integer.MAX_VALUE};

    private final Due due;
    private final Random random;
    private final int run;
    private final PairedTrees tried = new PairedTrees();
    private final PlainModel model = new PlainModel();
    // How far apart a run's numbers lie and how often they miss decides how many cuts are equally good.
    private final int spread;
    private final int lists;
    private final int odds;
    private final int clears;

    private ModelTest(Due due, int run) {
        this.due = due;
        this.run = run;
        random = new Random(run);
        spread = new int[] {1, 2, 5, 30, 1000}[random.nextInt(5)];
        lists = 1 + random.nextInt(4);
        odds = new int[] {0, 4, 30}[random.nextInt(3)];
        clears = random.nextInt(3) == 0 ? 1 : 0;
    }

    public static void main(String[] args) {
        Due due = new Due();
        for (int run = 0; run < RUNS && due.wrong() == 0; run++) {
            new ModelTest(due, run).calls();
        }
        due.end();
    }

    private void calls() {
        for (int call = 0; call < CALLS && due.wrong() == 0; call++) {
            int kind = random.nextInt(100);
            if (kind < 60) {
                change(kind);
            } else {
                ask(kind);
            }
        }
    }

    /** A number from its ordinary range or, now and then, any other one. */
    private int pick(int least, int most) {
        if (random.nextInt(100) < odds) {
            return ODD[random.nextInt(ODD.length)];
        }
        return least + random.nextInt(most - least + 1);
    }

    private int aThing() {
        return pick(0, Math.max(0, model.about(0) - 1));
    }

    private int aThingOrProbe() {
        return random.nextInt(6) == 0 ? -1 : aThing();
    }

    private int aTree() {
        return pick(0, Math.max(0, model.about(1) - 1));
    }

    private void compare(String name, Due.Call got, Due.Call want, int... with) {
        StringBuilder call = new StringBuilder("run " + run + ": " + name + "(");
        for (int i = 0; i < with.length; i++) {
            call.append(i == 0 ? "" : ", ").append(with[i]);
        }
        due.check(call.append(")").toString(), Due.outcome(got), Due.outcome(want));
    }

    private void change(int kind) {
        int thing = aThing();
        int owner = aThingOrProbe();
        int list = pick(0, lists - 1);
        int grade = pick(0, 4);
        int f = pick(0, 3);
        int v = pick(-spread, spread);
        if (kind < 12) {
            compare("thing", () -> tried.thing(list, grade), () -> model.thing(list, grade), list, grade);
        } else if (kind < 15) {
            compare("grade", () -> tried.grade(thing, grade), () -> model.grade(thing, grade), thing, grade);
        } else if (kind < 40) {
            compare("feature", () -> tried.feature(owner, f, v), () -> model.feature(owner, f, v), owner, f, v);
        } else if (kind < 44) {
            compare("miss", () -> tried.miss(owner, f), () -> model.miss(owner, f), owner, f);
        } else if (kind < 48) {
            set();
        } else if (kind < 56) {
            compare("grow", tried::grow, model::grow);
        } else if (kind < 58) {
            compare("cut", tried::cut, model::cut);
        } else if (random.nextInt(8) < clears) {
            compare("clear", tried::clear, model::clear);
        }
    }

    private void set() {
        int what = pick(0, 3);
        int[] most = {40, 100, 3, 4};
        int v = pick(0, what >= 0 && what < 4 ? most[what] : 3);
        compare("setting", () -> tried.setting(what, v), () -> model.setting(what, v), what, v);
    }

    private void ask(int kind) {
        int thing = aThing();
        int owner = aThingOrProbe();
        int tree = aTree();
        int k = pick(0, random.nextBoolean() ? 2 : 14);
        int list = pick(-1, lists - 1);
        int what = pick(0, 5);
        int f = pick(0, 3);
        int part = pick(0, 1);
        int count = pick(0, 2) + (random.nextBoolean() ? 10 : 0);
        if (kind < 62) {
            compare("told", () -> tried.told(thing, f), () -> model.told(thing, f), thing, f);
        } else if (kind < 74) {
            compare("node", () -> tried.node(tree, k, what), () -> model.node(tree, k, what), tree, k, what);
        } else if (kind < 80) {
            compare("gain", () -> tried.gain(tree, k, part), () -> model.gain(tree, k, part), tree, k, part);
        } else if (kind < 84) {
            compare("score", () -> tried.score(owner), () -> model.score(owner), owner);
        } else if (kind < 87) {
            compare("value", () -> tried.value(tree, owner), () -> model.value(tree, owner), tree, owner);
        } else if (kind < 90) {
            compare("push", () -> tried.push(thing), () -> model.push(thing), thing);
        } else if (kind < 93) {
            compare("ranked", () -> tried.ranked(list, what), () -> model.ranked(list, what), list, what);
        } else if (kind < 95) {
            compare("pairs", () -> tried.pairs(list, part), () -> model.pairs(list, part), list, part);
        } else if (kind < 97) {
            compare("share", () -> tried.share(list), () -> model.share(list), list);
        } else {
            compare("about", () -> tried.about(count), () -> model.about(count), count);
        }
    }
}
