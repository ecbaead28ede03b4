import java.util.function.Consumer;
import java.util.function.Supplier;

/** Objects that several tests begin from, and all that shows of an object. */
final class Scenes {
    private static final int NONE = -1;

    private Scenes() {
    }

    /** Things of list 0 with these grades and these numbers as feature 0. */
    static PairedTrees row(int[] grades, int[] numbers) {
        PairedTrees x = new PairedTrees();
        for (int i = 0; i < grades.length; i++) {
            x.thing(0, grades[i]);
            x.feature(i, 0, numbers[i]);
        }
        return x;
    }

    /** Two things of list 0: grade 3 with feature 0 of 5, grade 1 with 2. Their pushes are 2 and -2. */
    static PairedTrees two() {
        return row(new int[] {3, 1}, new int[] {5, 2});
    }

    /** Grades 1, 2, 0 with feature 0 of 20, 10, 30: pushes 0, 3, -3, and cuts at 10 and 20 gain the same. */
    static PairedTrees three() {
        return row(new int[] {1, 2, 0}, new int[] {20, 10, 30});
    }

    /** Grades 4, 0, 0, 0 with feature 0 of 1 to 4: pushes 12, -4, -4, -4. */
    static PairedTrees four() {
        return row(new int[] {4, 0, 0, 0}, new int[] {1, 2, 3, 4});
    }

    /**
     * Thing 1 of grade 1, thing 0 of grade 0. Their tree gives thing 0 -1, and thing 1 together with thing 2,
     * which is of another list, 1 / 2, rounded down to 0.
     */
    static PairedTrees oneApart() {
        PairedTrees x = row(new int[] {0, 1}, new int[] {3, 7});
        x.thing(1, 0);
        x.feature(2, 0, 7);
        x.setting(1, 1);
        return x;
    }

    /**
     * Two lists of four; feature 1 of thing i is 100 i. Pushes 9, 8, 4, 1, -3, -4, -7, -8: each node
     * parts best in the middle.
     */
    static PairedTrees eight() {
        PairedTrees x = new PairedTrees();
        int[] lists = {1, 0, 0, 1, 1, 0, 1, 0};
        int[] grades = {4, 4, 3, 2, 1, 1, 0, 0};
        for (int i = 0; i < 8; i++) {
            x.thing(lists[i], grades[i]);
            x.feature(i, 1, 100 * i);
        }
        return x;
    }

    /**
     * Four lists of four; feature 0 of thing i is i. Pushes 9, 8, 7, 6, 4, 3, 2, 1, and the same below 0: each
     * node parts best in the middle, and at depth 3 two things of unlike pushes are still together.
     */
    static PairedTrees sixteen() {
        PairedTrees x = new PairedTrees();
        int[] lists = {1, 2, 3, 0, 2, 3, 0, 1, 3, 0, 1, 2, 0, 1, 2, 3};
        int[] grades = {4, 4, 4, 3, 3, 3, 2, 2, 2, 1, 1, 1, 0, 0, 0, 0};
        for (int i = 0; i < 16; i++) {
            x.thing(lists[i], grades[i]);
            x.feature(i, 0, i);
        }
        return x;
    }

    /** As many things as there may be, of all lists and grades. */
    static PairedTrees full() {
        PairedTrees x = new PairedTrees();
        for (int i = 0; i < 24; i++) {
            x.thing(i % 4, i % 5);
        }
        return x;
    }

    /** A tree, a probe and settings other than the first ones: whatever a call changes, it shows. */
    static PairedTrees busy() {
        PairedTrees x = two();
        x.grow();
        x.feature(NONE, 0, 3);
        x.feature(NONE, 2, -1000);
        x.feature(0, 3, 1000);
        int[] settings = {41, 7, 3, 2};
        for (int what = 0; what < 4; what++) {
            x.setting(what, settings[what]);
        }
        return x;
    }

    /** As many trees as there may be, each a leaf for one thing. */
    static PairedTrees twentyTrees() {
        PairedTrees x = new PairedTrees();
        x.thing(2, 3);
        for (int tree = 0; tree < 20; tree++) {
            x.grow();
        }
        return x;
    }

    /** Of two equal objects, the one that is called shows as the other, to which nothing has happened. */
    static void changesNothing(Due due, Supplier<PairedTrees> scene, Consumer<PairedTrees> calls) {
        PairedTrees called = scene.get();
        calls.accept(called);
        due.check("all that shows", allThatShows(called), allThatShows(scene.get()));
    }

    /** Asks for all there is, and so changes it at last: grades, settings and the probe cannot be read otherwise. */
    static String allThatShows(PairedTrees x) {
        StringBuilder all = new StringBuilder();
        for (int what : new int[] {0, 1, 2, 10, 11, 12, 13}) {
            all.append(x.about(what)).append(' ');
        }
        int things = x.about(0);
        int trees = x.about(1);
        for (int i = 0; i < things; i++) {
            thing(all, x, i);
        }
        for (int list = 0; list < 4; list++) {
            list(all, x, list);
        }
        for (int tree = 0; tree < trees; tree++) {
            all.append("\ntree ").append(tree).append(" probe ").append(x.value(tree, NONE));
            node(all, x, tree, 0);
        }
        whatIsReadByChanging(all, x, things);
        return all.toString();
    }

    private static void thing(StringBuilder all, PairedTrees x, int i) {
        all.append("\nthing ").append(i);
        for (int f = 0; f < 4; f++) {
            int feature = f;
            all.append(' ').append(Due.outcome(() -> x.told(i, feature)));
        }
        all.append(" score ").append(x.score(i)).append(" push ").append(x.push(i));
    }

    private static void list(StringBuilder all, PairedTrees x, int list) {
        all.append("\nlist ").append(list).append(" share ").append(Due.outcome(() -> x.share(list)));
        all.append(" pairs ").append(x.pairs(list, 0)).append(' ').append(x.pairs(list, 1)).append(" ranked");
        int ranked = 0;
        for (int k = 0; k <= 24 && ranked != NONE; k++) {
            ranked = x.ranked(list, k);
            all.append(' ').append(ranked);
        }
    }

    private static void node(StringBuilder all, PairedTrees x, int tree, int k) {
        all.append("\nnode ").append(k);
        for (int what = 0; what < 6; what++) {
            all.append(' ').append(x.node(tree, k, what));
        }
        all.append(" gain ").append(x.gain(tree, k, 0)).append(" / ").append(x.gain(tree, k, 1));
        if (k < 7 && x.node(tree, k, 0) == 1) {
            node(all, x, tree, 2 * k + 1);
            node(all, x, tree, 2 * k + 2);
        }
    }

    private static void whatIsReadByChanging(StringBuilder all, PairedTrees x, int things) {
        all.append("\ngrades");
        for (int i = 0; i < things; i++) {
            all.append(' ').append(x.grade(i, 0));
        }
        all.append("\nsettings");
        for (int what = 0; what < 4; what++) {
            all.append(' ').append(x.setting(what, 1));
        }
        all.append("\nprobe");
        for (int f = 0; f < 4; f++) {
            all.append(' ').append(x.miss(NONE, f));
        }
        all.append("\nthings ").append(x.clear());
    }
}
