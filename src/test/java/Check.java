/** Counts and prints the answers that are not as due. */
final class Check {
    private final String name;
    private int asked = 0;
    private int wrong = 0;

    Check(String name) {
        this.name = name;
    }

    interface Call {
        Object answer();
    }

    /** The answer of the call, or the name of the exception that it throws. */
    static String told(Call call) {
        try {
            return String.valueOf(call.answer());
        } catch (RuntimeException e) {
            return "throws." + e.getClass().getSimpleName();
        }
    }

    void due(String what, Object want, Call call) {
        String got = told(call);
        asked++;
        if (!got.equals(String.valueOf(want))) {
            wrong++;
            System.out.println(name + ": " + what + " answered " + got + ", due is " + want);
        }
    }

    void index(String what, Call call) {
        due(what, "throws.IndexOutOfBoundsException", call);
    }

    void argument(String what, Call call) {
        due(what, "throws.IllegalArgumentException", call);
    }

    void state(String what, Call call) {
        due(what, "throws.IllegalStateException", call);
    }

    void end() {
        System.out.println(name + ": " + asked + " answers, " + wrong + " of them wrong");
        if (wrong > 0) {
            System.exit(1);
        }
    }
}
