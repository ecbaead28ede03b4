import java.math.BigInteger;
import java.util.ArrayList;
import java.util.List;
import java.util.TreeSet;

/**
 * The document's words put down a second time, with no eye to speed or room: gains are whole
 * fractions added up as told, cuts are tried in the order in which equal ones go ahead.
 */
final class PlainModel {
    private static final int UNKNOWN = -10001;
    private static final int OUTSIDE = -10002;
    private static final int FULL = -10003;
    private static final int STATE = -10004;

    private static final class Thing {
        int list;
        int grade;
        final Integer[] features = new Integer[4];
    }

    private static final class Fraction {
        final BigInteger upper;
        final BigInteger lower;

        Fraction(BigInteger upper, BigInteger lower) {
            BigInteger common = upper.gcd(lower);
            this.upper = upper.divide(common);
            this.lower = lower.divide(common);
        }

        static Fraction squareOver(long number, long divisor) {
            return new Fraction(BigInteger.valueOf(number).pow(2), BigInteger.valueOf(divisor));
        }

        Fraction plus(Fraction other) {
            return new Fraction(upper.multiply(other.lower).add(other.upper.multiply(lower)),
                    lower.multiply(other.lower));
        }

        Fraction minus(Fraction other) {
            return plus(new Fraction(other.upper.negate(), other.lower));
        }

        boolean isAbove(Fraction other) {
            return minus(other).upper.signum() > 0;
        }
    }

    private static final class Node {
        int held;
        int value;
        int f;
        int c;
        int side;
        Fraction gain;
        Node left;
        Node right;

        boolean isCut() {
            return gain != null;
        }

        Node below(int k) {
            if (k == 0) {
                return this;
            }
            Node over = below((k - 1) / 2);
            if (over == null) {
                return null;
            }
            return k % 2 == 1 ? over.left : over.right;
        }

        int valueFor(Thing thing) {
            if (!isCut()) {
                return value;
            }
            return (leadsLeft(thing, f, c, side) ? left : right).valueFor(thing);
        }

        int leaves() {
            return isCut() ? left.leaves() + right.leaves() : 1;
        }

        int cutsBy(int feature) {
            return isCut() ? (f == feature ? 1 : 0) + left.cutsBy(feature) + right.cutsBy(feature) : 0;
        }
    }

    private final List<Thing> things = new ArrayList<>();
    private final List<Node> trees = new ArrayList<>();
    private Thing probe = new Thing();
    private int[] settings = {10, 10, 2, 1};

    private static boolean leadsLeft(Thing thing, int f, int c, int side) {
        return thing.features[f] == null ? side == 0 : thing.features[f] <= c;
    }

    private static boolean isIn(int number, int least, int most) {
        return least <= number && number <= most;
    }

    private Thing thingOrProbe(int thing) {
        return thing == -1 ? probe : isIn(thing, 0, things.size() - 1) ? things.get(thing) : null;
    }

    int thing(int list, int grade) {
        if (!isIn(list, 0, 3) || !isIn(grade, 0, 4)) {
            return OUTSIDE;
        }
        if (things.size() == 24) {
            return FULL;
        }
        Thing thing = new Thing();
        thing.list = list;
        thing.grade = grade;
        things.add(thing);
        return things.size() - 1;
    }

    int grade(int thing, int grade) {
        if (!isIn(thing, 0, things.size() - 1)) {
            return UNKNOWN;
        }
        if (!isIn(grade, 0, 4)) {
            return OUTSIDE;
        }
        int before = things.get(thing).grade;
        things.get(thing).grade = grade;
        return before;
    }

    int feature(int thing, int f, int v) {
        Thing meant = thingOrProbe(thing);
        if (meant == null) {
            return UNKNOWN;
        }
        if (!isIn(f, 0, 3) || !isIn(v, -1000, 1000)) {
            return OUTSIDE;
        }
        Integer before = meant.features[f];
        meant.features[f] = v;
        return before == null ? 0 : 1;
    }

    int miss(int thing, int f) {
        Thing meant = thingOrProbe(thing);
        if (meant == null) {
            return UNKNOWN;
        }
        if (!isIn(f, 0, 3)) {
            return OUTSIDE;
        }
        Integer before = meant.features[f];
        meant.features[f] = null;
        return before == null ? 0 : 1;
    }

    int told(int thing, int f) {
        if (!isIn(thing, 0, 23)) {
            throw new ArrayIndexOutOfBoundsException();
        }
        if (thing >= things.size()) {
            throw new NullPointerException();
        }
        if (!isIn(f, 0, 3)) {
            throw new ArrayIndexOutOfBoundsException();
        }
        if (things.get(thing).features[f] == null) {
            throw new NullPointerException();
        }
        return things.get(thing).features[f];
    }

    int setting(int what, int v) {
        boolean fits = what == 0 && isIn(v, 0, 1000) || what == 1 && isIn(v, 1, 100)
                || what == 2 && isIn(v, 1, 3) || what == 3 && isIn(v, 1, 8);
        if (!fits) {
            return OUTSIDE;
        }
        int before = settings[what];
        settings[what] = v;
        return before;
    }

    int grow() {
        if (trees.size() == 20) {
            return FULL;
        }
        if (things.isEmpty()) {
            return STATE;
        }
        List<Integer> all = new ArrayList<>();
        List<Integer> pushes = new ArrayList<>();
        for (int i = 0; i < things.size(); i++) {
            all.add(i);
            pushes.add(push(i));
        }
        trees.add(grown(all, pushes, 0));
        return trees.get(trees.size() - 1).leaves();
    }

    private Node grown(List<Integer> here, List<Integer> pushes, int depth) {
        Node node = new Node();
        node.held = here.size();
        node.value = Math.floorDiv(settings[1] * sum(here, pushes), here.size());
        if (depth < settings[2]) {
            for (int f = 0; f < 4; f++) {
                for (int c : numbersOf(here, f)) {
                    for (int side = 0; side < 2; side++) {
                        takeIfBetter(node, here, pushes, f, c, side);
                    }
                }
            }
        }
        if (node.isCut()) {
            node.left = grown(led(here, node.f, node.c, node.side, true), pushes, depth + 1);
            node.right = grown(led(here, node.f, node.c, node.side, false), pushes, depth + 1);
        }
        return node;
    }

    private void takeIfBetter(Node node, List<Integer> here, List<Integer> pushes, int f, int c, int side) {
        List<Integer> left = led(here, f, c, side, true);
        List<Integer> right = led(here, f, c, side, false);
        if (left.size() < settings[3] || right.size() < settings[3]) {
            return;
        }
        Fraction gain = Fraction.squareOver(sum(left, pushes), left.size())
                .plus(Fraction.squareOver(sum(right, pushes), right.size()))
                .minus(Fraction.squareOver(sum(here, pushes), here.size()));
        Fraction toBeat = node.isCut() ? node.gain : Fraction.squareOver(0, 1);
        if (gain.isAbove(toBeat)) {
            node.gain = gain;
            node.f = f;
            node.c = c;
            node.side = side;
        }
    }

    private TreeSet<Integer> numbersOf(List<Integer> here, int f) {
        TreeSet<Integer> numbers = new TreeSet<>();
        for (int i : here) {
            if (things.get(i).features[f] != null) {
                numbers.add(things.get(i).features[f]);
            }
        }
        return numbers;
    }

    private List<Integer> led(List<Integer> here, int f, int c, int side, boolean left) {
        List<Integer> found = new ArrayList<>();
        for (int i : here) {
            if (leadsLeft(things.get(i), f, c, side) == left) {
                found.add(i);
            }
        }
        return found;
    }

    private static int sum(List<Integer> here, List<Integer> pushes) {
        int sum = 0;
        for (int i : here) {
            sum += pushes.get(i);
        }
        return sum;
    }

    int cut() {
        if (trees.isEmpty()) {
            return STATE;
        }
        trees.remove(trees.size() - 1);
        return trees.size();
    }

    private Node nodeOrNull(int tree, int k) {
        return isIn(tree, 0, trees.size() - 1) && isIn(k, 0, 14) ? trees.get(tree).below(k) : null;
    }

    int node(int tree, int k, int what) {
        Node node = nodeOrNull(tree, k);
        if (node == null) {
            return UNKNOWN;
        }
        if (!isIn(what, 0, 5) || isIn(what, 1, 3) && !node.isCut() || what == 4 && node.isCut()) {
            return OUTSIDE;
        }
        return new int[] {node.isCut() ? 1 : 0, node.f, node.c, node.side, node.value, node.held}[what];
    }

    long gain(int tree, int k, int part) {
        Node node = nodeOrNull(tree, k);
        if (node == null || !node.isCut()) {
            return UNKNOWN;
        }
        if (!isIn(part, 0, 1)) {
            return OUTSIDE;
        }
        return (part == 0 ? node.gain.upper : node.gain.lower).longValueExact();
    }

    private long scoreOf(Thing thing) {
        long sum = 0;
        for (Node tree : trees) {
            sum += tree.valueFor(thing);
        }
        return sum;
    }

    long score(int thing) {
        Thing meant = thingOrProbe(thing);
        return meant == null ? UNKNOWN : scoreOf(meant);
    }

    int value(int tree, int thing) {
        Thing meant = thingOrProbe(thing);
        if (!isIn(tree, 0, trees.size() - 1) || meant == null) {
            return UNKNOWN;
        }
        return trees.get(tree).valueFor(meant);
    }

    int push(int thing) {
        if (!isIn(thing, 0, things.size() - 1)) {
            return UNKNOWN;
        }
        int push = 0;
        for (Thing i : things) {
            for (Thing j : things) {
                if (i.list == j.list && i.grade > j.grade && scoreOf(i) - scoreOf(j) < settings[0]) {
                    push += i == things.get(thing) ? i.grade - j.grade : 0;
                    push -= j == things.get(thing) ? i.grade - j.grade : 0;
                }
            }
        }
        return push;
    }

    int ranked(int list, int k) {
        if (!isIn(list, 0, 3)) {
            return OUTSIDE;
        }
        List<Integer> order = new ArrayList<>();
        for (int i = 0; i < things.size(); i++) {
            if (things.get(i).list == list) {
                order.add(i);
            }
        }
        // The sort keeps equal ones as they are: lesser numbers first.
        order.sort((a, b) -> Long.compare(score(b), score(a)));
        return isIn(k, 0, order.size() - 1) ? order.get(k) : -1;
    }

    int pairs(int list, int what) {
        if (!isIn(list, -1, 3) || !isIn(what, 0, 1)) {
            return OUTSIDE;
        }
        int count = 0;
        for (Thing i : things) {
            for (Thing j : things) {
                if (i.list == j.list && i.grade > j.grade && (list == -1 || i.list == list)
                        && (what == 0 || scoreOf(i) <= scoreOf(j))) {
                    count++;
                }
            }
        }
        return count;
    }

    int share(int list) {
        if (!isIn(list, -1, 3)) {
            return OUTSIDE;
        }
        if (pairs(list, 0) == 0) {
            throw new ArithmeticException();
        }
        return 1000 * pairs(list, 1) / pairs(list, 0);
    }

    int about(int what) {
        if (what == 0 || what == 1) {
            return what == 0 ? things.size() : trees.size();
        }
        if (what != 2 && !isIn(what, 10, 13)) {
            return OUTSIDE;
        }
        int count = 0;
        for (Node tree : trees) {
            count += what == 2 ? tree.leaves() : tree.cutsBy(what - 10);
        }
        return count;
    }

    int clear() {
        int before = things.size();
        things.clear();
        trees.clear();
        probe = new Thing();
        settings = new int[] {10, 10, 2, 1};
        return before;
    }
}
