/** Counts and prints the answers that are not as due. */
final class Checks {
    /** A call that is due to answer a number or a boolean. */
    interface Call {
        Object answer();
    }

    /** A call that answers nothing. */
    interface Deed {
        void run();
    }

    private int wrong;
    private int asked;

    void due(String what, Object want, Call call) {
        asked++;
        Object got = outcome(call);
        if (!asText(got).equals(asText(want))) {
            wrong++;
            System.out.println(what + " answered " + asText(got) + ", due is " + asText(want));
        }
    }

    void dueThrow(String what, Class<? extends RuntimeException> want, Deed deed) {
        due(what, "throws." + want.getSimpleName(), () -> {
            deed.run();
            return "nothing";
        });
    }

    void duePass(String what, Deed deed) {
        due(what, "nothing", () -> {
            deed.run();
            return "nothing";
        });
    }

    /** Ends the program with exit code 1 if an answer was wrong. */
    void end(String test) {
        System.out.println(test + ": " + asked + " answers, " + wrong + " not as due");
        if (wrong != 0 || asked == 0) {
            System.exit(1);
        }
    }

    static Object outcome(Call call) {
        try {
            return call.answer();
        } catch (RuntimeException e) {
            return "throws." + e.getClass().getSimpleName();
        }
    }

    private static String asText(Object answer) {
        return String.valueOf(answer);
    }
}
