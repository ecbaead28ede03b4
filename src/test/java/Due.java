/** Compares answers with those that are due, prints each that differs, and ends the test. */
final class Due {
    private final String about;
    private int asked = 0;
    private int wrong = 0;

    Due() {
        this("");
    }

    /** Begins each line that it prints with what the answers are about. */
    Due(String about) {
        this.about = about;
    }

    /** A call that may throw. */
    interface Call {
        long ask();
    }

    void is(String call, long got, long want) {
        check(call, Long.toString(got), Long.toString(want));
    }

    void isThrown(String call, Class<? extends RuntimeException> want, Call made) {
        check(call, outcome(made), "throws." + want.getSimpleName());
    }

    void check(String call, String got, String want) {
        asked++;
        if (!got.equals(want)) {
            wrong++;
            System.out.println(about + call + " answered " + got + ", due is " + want);
        }
    }

    static String outcome(Call made) {
        try {
            return Long.toString(made.ask());
        } catch (RuntimeException e) {
            return "throws." + e.getClass().getSimpleName() + (isOfTheMachine(e) ? " (the machine's)" : "");
        }
    }

    /** LANGUAGE.md, rule 7: what is thrown is thrown by a throw statement. The machine's own have these texts. */
    private static boolean isOfTheMachine(RuntimeException e) {
        String text = String.valueOf(e.getMessage());
        return text.equals("/ by zero") || text.startsWith("Index ") || text.startsWith("Cannot ");
    }

    int wrong() {
        return wrong;
    }

    /** A test that looked at nothing has not shown that anything holds. */
    boolean isMet() {
        return wrong == 0 && asked > 0;
    }

    void end() {
        System.out.println(asked + " answers looked at, " + wrong + " not as due");
        if (!isMet()) {
            System.exit(1);
        }
    }
}
