/** What the tests share: they tell each answer that is not the one that is due, and count them. */
final class Check {
    private static int asked = 0;
    private static int wrong = 0;
    /** The sentence of the document that is held against the class just now; empty if none is. */
    private static String sentence = "";

    private Check() {
    }

    interface Call {
        void run();
    }

    static void about(String said) {
        sentence = said;
    }

    static void same(String call, long got, long due) {
        asked++;
        if (got != due) {
            tellWrong(call + " answered " + got + ", due is " + due);
        }
    }

    static void sameDouble(String call, double got, double due) {
        asked++;
        if (got != due) {
            tellWrong(call + " answered " + got + ", due is " + due);
        }
    }

    /** The call has to throw just this, and to leave the courtyard as it is. */
    static void refused(String call, Class<? extends Exception> due, DoorbellChoir x, Call tried) {
        long before = x.digest();
        asked++;
        RuntimeException got = null;
        try {
            tried.run();
        } catch (RuntimeException e) {
            got = e;
        }
        if (got == null || got.getClass() != due || !isThrownByItself(got)) {
            tellWrong(call + " threw " + got + ", due is " + due + " by a throw of its own");
        }
        same(call + ": the digest behind it", x.digest(), before);
    }

    /** By a throw statement of DoorbellChoir; the machine's and the library's have a message. */
    static boolean isThrownByItself(RuntimeException e) {
        StackTraceElement[] trace = e.getStackTrace();
        return e.getMessage() == null && trace.length > 0
            && trace[0].getClassName().startsWith("DoorbellChoir");
    }

    static void noSuch(String call, DoorbellChoir x, Call tried) {
        refused(call, IndexOutOfBoundsException.class, x, tried);
    }

    static void badArgument(String call, DoorbellChoir x, Call tried) {
        refused(call, IllegalArgumentException.class, x, tried);
    }

    static void badState(String call, DoorbellChoir x, Call tried) {
        refused(call, IllegalStateException.class, x, tried);
    }

    private static void tellWrong(String text) {
        wrong++;
        if (wrong <= 50) {
            System.out.println("  wrong: " + text);
            if (!sentence.isEmpty()) {
                System.out.println("         where it says: " + sentence);
            }
        }
    }

    static void end() {
        System.out.println("  " + asked + " answers looked at, " + wrong + " wrong");
        if (asked == 0 || wrong > 0) {
            System.exit(1);
        }
    }
}
