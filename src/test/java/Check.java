/** What the tests have in common: each wrong answer is printed, and end() fails if there was one. */
final class Check {
    static final Class<IllegalArgumentException> ARGUMENT = IllegalArgumentException.class;
    static final Class<IllegalStateException> STATE = IllegalStateException.class;
    static final Class<IndexOutOfBoundsException> INDEX = IndexOutOfBoundsException.class;

    private static int asked = 0;
    private static int wrong = 0;
    private static String sentence = "";

    private Check() {
    }

    interface Call {
        long answer();
    }

    /** What is checked from now on is what this sentence of the document says. */
    static void sentence(String text) {
        sentence = "[" + text + "] ";
    }

    static void is(String what, long got, long due) {
        asked++;
        if (got != due) {
            fail(what + " answered " + got + ", due is " + due);
        }
    }

    static void same(String what, Object got, Object due) {
        asked++;
        if (!got.equals(due)) {
            fail(what + " answered " + got + ", due is " + due);
        }
    }

    /** The call must throw this very kind of exception, and change nothing. */
    static void refuses(HayThieves x, Class<? extends RuntimeException> kind, String what, Call call) {
        String before = Picture.inShort(x);
        same(what, outcome(call), "throws." + kind.getSimpleName());
        same(what + " leaves", Picture.inShort(x), before);
    }

    /** The answer, or throws. and the name of the exception. */
    static String outcome(Call call) {
        try {
            return Long.toString(call.answer());
        } catch (RuntimeException e) {
            return "throws." + e.getClass().getSimpleName();
        }
    }

    static void fail(String text) {
        wrong++;
        System.out.println(sentence + text);
    }

    static void end() {
        System.out.println(asked + " answers, " + wrong + " wrong");
        if (wrong != 0 || asked == 0) {
            System.exit(1);
        }
    }
}
