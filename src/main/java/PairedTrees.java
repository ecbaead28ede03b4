import java.util.Arrays;

/** Ranks the things of judged lists by trees of cuts, each grown to push higher grades ahead. */
public final class PairedTrees {
    public static final int NONE = -1, UNKNOWN = -10001, OUTSIDE = -10002, FULL = -10003, STATE = -10004;

    private static final int MOST_THINGS = 24;
    private static final int LISTS = 4;
    private static final int HIGHEST_GRADE = 4;

    private static final int FEATURES = 4;
    private static final int FARTHEST_NUMBER = 1000;
    // No feature can be this number, so that a row needs no second array for what is missing.
    private static final int MISSING = -FARTHEST_NUMBER - 1;
    // The probe's features stand in the row behind those of the things.
    private static final int PROBE_ROW = MOST_THINGS;
    private static final int ROWS = MOST_THINGS + 1;

    private static final int MOST_TREES = 20;
    private static final int DEEPEST = 3;
    private static final int NODES = 15;
    private static final int LEFT_SIDE = 0;
    private static final int SIDES = 2;

    private static final int NO_NODE = 0;
    private static final int LEAF = 1;
    private static final int CUT = 2;

    private static final int SETTINGS = 4;
    private static final int MARGIN = 0;
    private static final int STEP = 1;
    private static final int DEPTH = 2;
    private static final int LEAST = 3;
    private static final int[] LOWEST_SETTING = {0, 1, 1, 1};
    private static final int[] HIGHEST_SETTING = {1000, 100, 3, 8};
    private static final int[] FIRST_SETTING = {10, 10, 2, 1};

    private final Things things = new Things();
    private final Forest forest = new Forest();
    private final Grower grower = new Grower();
    private final int[] settings = new int[SETTINGS];

    public PairedTrees() {
        startAnew();
    }

    public int thing(int list, int grade) {
        if (!isList(list) || !isGrade(grade)) {
            return OUTSIDE;
        }
        if (things.count >= MOST_THINGS) {
            return FULL;
        }
        return things.take(list, grade);
    }

    public int grade(int thing, int grade) {
        if (!things.has(thing)) {
            return UNKNOWN;
        }
        if (!isGrade(grade)) {
            return OUTSIDE;
        }
        int before = things.grades[thing];
        things.grades[thing] = grade;
        return before;
    }

    public int feature(int thing, int f, int v) {
        int row = things.rowOf(thing);
        if (row == NONE) {
            return UNKNOWN;
        }
        if (!isFeature(f) || v < -FARTHEST_NUMBER || v > FARTHEST_NUMBER) {
            return OUTSIDE;
        }
        return things.replace(row, f, v) == MISSING ? 0 : 1;
    }

    public int miss(int thing, int f) {
        int row = things.rowOf(thing);
        if (row == NONE) {
            return UNKNOWN;
        }
        if (!isFeature(f)) {
            return OUTSIDE;
        }
        return things.replace(row, f, MISSING) == MISSING ? 0 : 1;
    }

    public int told(int thing, int f) throws NullPointerException, ArrayIndexOutOfBoundsException {
        if (thing < 0 || thing >= MOST_THINGS) {
            throw new ArrayIndexOutOfBoundsException("no thing can have this number");
        }
        if (!things.has(thing)) {
            throw new NullPointerException("there is no such thing");
        }
        if (!isFeature(f)) {
            throw new ArrayIndexOutOfBoundsException("no feature has this number");
        }
        int number = things.numberAt(thing, f);
        if (number == MISSING) {
            throw new NullPointerException("the feature is missing");
        }
        return number;
    }

    public int setting(int what, int v) {
        if (what < 0 || what >= SETTINGS) {
            return OUTSIDE;
        }
        if (v < LOWEST_SETTING[what] || v > HIGHEST_SETTING[what]) {
            return OUTSIDE;
        }
        int before = settings[what];
        settings[what] = v;
        return before;
    }

    public int grow() {
        if (forest.count >= MOST_TREES) {
            return FULL;
        }
        if (things.count == 0) {
            return STATE;
        }
        things.takeScores(forest);
        int tree = forest.addTree();
        grower.growTree(things, forest, tree, settings);
        return forest.countLeaves(tree, tree + 1);
    }

    public int cut() {
        if (forest.count == 0) {
            return STATE;
        }
        forest.count--;
        return forest.count;
    }

    public int node(int tree, int k, int what) {
        int at = forest.find(tree, k);
        if (at == NONE) {
            return UNKNOWN;
        }
        boolean isCut = forest.kinds[at] == CUT;
        switch (what) {
            case 0:
                return isCut ? 1 : 0;
            case 1:
                return isCut ? forest.features[at] : OUTSIDE;
            case 2:
                return isCut ? forest.limits[at] : OUTSIDE;
            case 3:
                return isCut ? forest.sides[at] : OUTSIDE;
            case 4:
                return isCut ? OUTSIDE : forest.values[at];
            case 5:
                return forest.held[at];
            default:
                return OUTSIDE;
        }
    }

    public long gain(int tree, int k, int part) {
        int at = forest.find(tree, k);
        if (at == NONE || forest.kinds[at] != CUT) {
            return UNKNOWN;
        }
        switch (part) {
            case 0:
                return forest.uppers[at];
            case 1:
                return forest.lowers[at];
            default:
                return OUTSIDE;
        }
    }

    public long score(int thing) {
        int row = things.rowOf(thing);
        if (row == NONE) {
            return UNKNOWN;
        }
        return forest.sumFor(things, row);
    }

    public int value(int tree, int thing) {
        int row = things.rowOf(thing);
        if (!forest.has(tree) || row == NONE) {
            return UNKNOWN;
        }
        return forest.valueFor(tree, things, row);
    }

    public int push(int thing) {
        if (!things.has(thing)) {
            return UNKNOWN;
        }
        things.takeScores(forest);
        return things.pushOf(thing, settings[MARGIN]);
    }

    public int ranked(int list, int k) {
        if (!isList(list)) {
            return OUTSIDE;
        }
        things.takeScores(forest);
        for (int i = 0; i < things.count; i++) {
            if (things.lists[i] == list && things.countAhead(i) == k) {
                return i;
            }
        }
        return NONE;
    }

    public int pairs(int list, int what) {
        if (!isListOrAll(list) || what < 0 || what > 1) {
            return OUTSIDE;
        }
        things.takeScores(forest);
        return things.countPairs(list, what == 1);
    }

    public int share(int list) throws ArithmeticException {
        if (!isListOrAll(list)) {
            return OUTSIDE;
        }
        things.takeScores(forest);
        int all = things.countPairs(list, false);
        if (all == 0) {
            throw new ArithmeticException("there are no pairs");
        }
        return things.countPairs(list, true) * 1000 / all;
    }

    public int about(int what) {
        switch (what) {
            case 0:
                return things.count;
            case 1:
                return forest.count;
            case 2:
                return forest.countLeaves(0, forest.count);
            case 10:
            case 11:
            case 12:
            case 13:
                return forest.countCutsBy(what - 10);
            default:
                return OUTSIDE;
        }
    }

    public int clear() {
        int before = things.count;
        startAnew();
        return before;
    }

    private void startAnew() {
        things.count = 0;
        things.forgetRow(PROBE_ROW);
        forest.count = 0;
        System.arraycopy(FIRST_SETTING, 0, settings, 0, SETTINGS);
    }

    private static boolean isList(int list) {
        return list >= 0 && list < LISTS;
    }

    private static boolean isListOrAll(int list) {
        return list == NONE || isList(list);
    }

    private static boolean isGrade(int grade) {
        return grade >= 0 && grade <= HIGHEST_GRADE;
    }

    private static boolean isFeature(int f) {
        return f >= 0 && f < FEATURES;
    }

    /** The things and the probe, and what follows from grades and scores alone. */
    private static final class Things {
        int count;
        final int[] lists = new int[MOST_THINGS];
        final int[] grades = new int[MOST_THINGS];
        final int[] numbers = new int[ROWS * FEATURES];
        // Each call that compares scores takes them anew first: features and trees may have changed.
        final long[] scores = new long[MOST_THINGS];

        boolean has(int thing) {
            return thing >= 0 && thing < count;
        }

        /** The row of features of a thing or, for NONE, of the probe; NONE if there is no such thing. */
        int rowOf(int thing) {
            if (thing == NONE) {
                return PROBE_ROW;
            }
            return has(thing) ? thing : NONE;
        }

        int take(int list, int grade) {
            int thing = count;
            lists[thing] = list;
            grades[thing] = grade;
            // After a clear the row may still hold what an earlier thing had.
            forgetRow(thing);
            count++;
            return thing;
        }

        void forgetRow(int row) {
            Arrays.fill(numbers, row * FEATURES, (row + 1) * FEATURES, MISSING);
        }

        int numberAt(int row, int f) {
            return numbers[row * FEATURES + f];
        }

        /** Answers what the feature was before. */
        int replace(int row, int f, int number) {
            int before = numbers[row * FEATURES + f];
            numbers[row * FEATURES + f] = number;
            return before;
        }

        boolean goesLeft(int row, int f, int limit, int side) {
            int number = numberAt(row, f);
            return number == MISSING ? side == LEFT_SIDE : number <= limit;
        }

        void takeScores(Forest forest) {
            for (int i = 0; i < count; i++) {
                scores[i] = forest.sumFor(this, i);
            }
        }

        boolean arePair(int upper, int lower) {
            return lists[upper] == lists[lower] && grades[upper] > grades[lower];
        }

        int pushOf(int thing, int margin) {
            int sum = 0;
            for (int other = 0; other < count; other++) {
                sum += pushOfPair(thing, other, margin) - pushOfPair(other, thing, margin);
            }
            return sum;
        }

        private int pushOfPair(int upper, int lower, int margin) {
            if (!arePair(upper, lower) || scores[upper] - scores[lower] >= margin) {
                return 0;
            }
            return grades[upper] - grades[lower];
        }

        /** How many of the thing's list are ranked ahead of it. */
        int countAhead(int thing) {
            int ahead = 0;
            for (int other = 0; other < count; other++) {
                if (lists[other] == lists[thing] && isAhead(other, thing)) {
                    ahead++;
                }
            }
            return ahead;
        }

        private boolean isAhead(int one, int other) {
            if (scores[one] != scores[other]) {
                return scores[one] > scores[other];
            }
            return one < other;
        }

        /** The pairs of a list (NONE: of all), or only those that are wrong. */
        int countPairs(int list, boolean onlyWrong) {
            int found = 0;
            for (int i = 0; i < count; i++) {
                for (int j = 0; j < count; j++) {
                    boolean isMeant = list == NONE || lists[i] == list;
                    boolean isWrong = scores[i] <= scores[j];
                    if (isMeant && arePair(i, j) && (isWrong || !onlyWrong)) {
                        found++;
                    }
                }
            }
            return found;
        }
    }

    /** The trees; node k of a tree stands at tree * NODES + k of each row. */
    private static final class Forest {
        int count;
        final int[] kinds = new int[MOST_TREES * NODES];
        final int[] features = new int[MOST_TREES * NODES];
        final int[] limits = new int[MOST_TREES * NODES];
        final int[] sides = new int[MOST_TREES * NODES];
        final int[] values = new int[MOST_TREES * NODES];
        final int[] held = new int[MOST_TREES * NODES];
        final long[] uppers = new long[MOST_TREES * NODES];
        final long[] lowers = new long[MOST_TREES * NODES];

        boolean has(int tree) {
            return tree >= 0 && tree < count;
        }

        /** Where a node stands in the rows; NONE if there is no such node. */
        int find(int tree, int k) {
            if (!has(tree) || k < 0 || k >= NODES) {
                return NONE;
            }
            int at = tree * NODES + k;
            return kinds[at] == NO_NODE ? NONE : at;
        }

        int addTree() {
            int tree = count;
            // The place may have belonged to a tree that has gone.
            Arrays.fill(kinds, tree * NODES, (tree + 1) * NODES, NO_NODE);
            count++;
            return tree;
        }

        void setCut(int at, int things, BestCut cut) {
            kinds[at] = CUT;
            held[at] = things;
            features[at] = cut.feature;
            limits[at] = cut.limit;
            sides[at] = cut.side;
            long common = commonDivisor(cut.upper, cut.lower);
            uppers[at] = common > 1 ? cut.upper / common : cut.upper;
            lowers[at] = common > 1 ? cut.lower / common : cut.lower;
        }

        void setLeaf(int at, int things, int value) {
            kinds[at] = LEAF;
            held[at] = things;
            values[at] = value;
        }

        private static long commonDivisor(long one, long other) {
            long greater = one;
            long lesser = other;
            // Two longs never need a hundred of Euclid's steps.
            for (int step = 0; step < 100 && lesser != 0; step++) {
                long rest = greater % lesser;
                greater = lesser;
                lesser = rest;
            }
            return greater;
        }

        int valueFor(int tree, Things things, int row) {
            int base = tree * NODES;
            int k = 0;
            for (int depth = 0; depth < DEEPEST && kinds[base + k] == CUT; depth++) {
                int at = base + k;
                boolean left = things.goesLeft(row, features[at], limits[at], sides[at]);
                k = left ? 2 * k + 1 : 2 * k + 2;
            }
            return values[base + k];
        }

        long sumFor(Things things, int row) {
            long sum = 0;
            for (int tree = 0; tree < count; tree++) {
                sum += valueFor(tree, things, row);
            }
            return sum;
        }

        int countLeaves(int firstTree, int endTree) {
            int found = 0;
            for (int at = firstTree * NODES; at < endTree * NODES; at++) {
                if (kinds[at] == LEAF) {
                    found++;
                }
            }
            return found;
        }

        int countCutsBy(int f) {
            int found = 0;
            for (int at = 0; at < count * NODES; at++) {
                if (kinds[at] == CUT && features[at] == f) {
                    found++;
                }
            }
            return found;
        }
    }

    /** The best cut of a node found so far; its gain is upper / lower, not yet in lowest terms. */
    private static final class BestCut {
        boolean isFound;
        int feature;
        int limit;
        int side;
        long upper;
        long lower;

        void offer(int f, int c, int s, long gainUpper, long gainLower) {
            if (isFound && !isBetter(f, c, s, gainUpper, gainLower)) {
                return;
            }
            isFound = true;
            feature = f;
            limit = c;
            side = s;
            upper = gainUpper;
            lower = gainLower;
        }

        private boolean isBetter(int f, int c, int s, long gainUpper, long gainLower) {
            // Upper parts stay below 2^36 and lower ones below 2^12: crosswise products fit a long.
            long offered = gainUpper * lower;
            long best = upper * gainLower;
            if (offered != best) {
                return offered > best;
            }
            if (f != feature) {
                return f < feature;
            }
            return c != limit ? c < limit : s < side;
        }
    }

    /** Grows one tree at a time; its rows are used again for each. */
    private static final class Grower {
        private final int[] pushes = new int[MOST_THINGS];
        private final int[] places = new int[MOST_THINGS];
        private final BestCut best = new BestCut();
        private int held;
        private int sum;

        void growTree(Things things, Forest forest, int tree, int[] settings) {
            for (int i = 0; i < things.count; i++) {
                pushes[i] = things.pushOf(i, settings[MARGIN]);
                places[i] = 0;
            }
            // A node's number is above that of the node over it, so things have come to it by its turn.
            for (int k = 0; k < NODES; k++) {
                gather(things, k);
                if (held > 0) {
                    growNode(things, forest, tree, k, settings);
                }
            }
        }

        private void gather(Things things, int k) {
            held = 0;
            sum = 0;
            for (int i = 0; i < things.count; i++) {
                if (places[i] == k) {
                    held++;
                    sum += pushes[i];
                }
            }
        }

        private void growNode(Things things, Forest forest, int tree, int k, int[] settings) {
            int at = tree * NODES + k;
            best.isFound = false;
            if (depthOf(k) < settings[DEPTH]) {
                seekCut(things, k, settings[LEAST]);
            }
            if (best.isFound) {
                forest.setCut(at, held, best);
                part(things, k);
            } else {
                forest.setLeaf(at, held, held > 0 ? Math.floorDiv(settings[STEP] * sum, held) : 0);
            }
        }

        private static int depthOf(int k) {
            if (k == 0) {
                return 0;
            }
            if (k <= 2) {
                return 1;
            }
            return k <= 6 ? 2 : DEEPEST;
        }

        private void seekCut(Things things, int k, int least) {
            for (int f = 0; f < FEATURES; f++) {
                for (int i = 0; i < things.count; i++) {
                    int limit = things.numberAt(i, f);
                    if (places[i] == k && limit != MISSING) {
                        for (int side = 0; side < SIDES; side++) {
                            tryCut(things, k, f, limit, side, least);
                        }
                    }
                }
            }
        }

        private void tryCut(Things things, int k, int f, int limit, int side, int least) {
            long left = 0;
            long leftSum = 0;
            for (int i = 0; i < things.count; i++) {
                if (places[i] == k && things.goesLeft(i, f, limit, side)) {
                    left++;
                    leftSum += pushes[i];
                }
            }
            long right = held - left;
            long rightSum = sum - leftSum;
            // L L / l + R R / r - S S / n is (L r - R l)^2 / (l r n), of whole numbers alone.
            long spread = leftSum * right - rightSum * left;
            if (left >= least && right >= least && spread != 0) {
                best.offer(f, limit, side, spread * spread, left * right * held);
            }
        }

        private void part(Things things, int k) {
            for (int i = 0; i < things.count; i++) {
                if (places[i] == k) {
                    boolean left = things.goesLeft(i, best.feature, best.limit, best.side);
                    places[i] = left ? 2 * k + 1 : 2 * k + 2;
                }
            }
        }
    }
}
