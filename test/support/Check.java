/** Counts the answers that are not the ones that are due, and prints them. */
final class Check {
    interface Call {
        long answer();
    }

    static final String BOUNDS = "throws.IndexOutOfBoundsException";
    static final String ARGUMENT = "throws.IllegalArgumentException";
    static final String STATE = "throws.IllegalStateException";

    private static int wrong = 0;
    private static int asked = 0;

    private Check() {
    }

    /** What a call answers, or throws. */
    static String answer(Call call) {
        try {
            return Long.toString(call.answer());
        } catch (RuntimeException e) {
            return "throws." + e.getClass().getSimpleName();
        }
    }

    static void due(String what, Call call, long want) {
        due(what, answer(call), Long.toString(want));
    }

    static void thrown(String what, Call call, String want) {
        due(what, answer(call), want);
    }

    static void due(String what, String got, String want) {
        asked++;
        if (!got.equals(want)) {
            wrong++;
            System.out.println(what + " answered " + got + ", due is " + want);
        }
    }

    static void isTrue(String what, boolean holds) {
        due(what, Boolean.toString(holds), "true");
    }

    /** Ends the program, with 1 if an answer was wrong or nothing was asked. */
    static void end() {
        System.out.println(asked + " answers, " + wrong + " of them not as due");
        System.exit(wrong == 0 && asked > 0 ? 0 : 1);
    }
}
