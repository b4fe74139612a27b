/** Counts and prints the answers that are not as due; a test ends by calling finish. */
final class Check {
    static final String BAD = "IllegalArgumentException";
    static final String FULL = "IndexOutOfBoundsException";
    static final String MISSING = "NoSuchElementException";

    interface Call {
        Object run();
    }

    private String about = "";
    private int wrong;

    /** The sentence of the document that the checks from here on hold the class to. */
    void about(String sentence) {
        about = "\"" + sentence + "\": ";
    }

    void due(String what, Object want, Call call) {
        Object got = answer(call);
        if (!got.toString().equals(want.toString())) {
            wrong++;
            System.out.println(about + what + " answered " + got + ", due is " + want);
        }
    }

    /** The call's answer, or the bare name of what it throws: the very class, not one below it. */
    static Object answer(Call call) {
        try {
            return call.run();
        } catch (RuntimeException e) {
            return e.getClass().getSimpleName();
        }
    }

    void finish() {
        if (wrong != 0) {
            System.out.println(wrong + " answers are not as due");
            System.exit(1);
        }
    }
}
