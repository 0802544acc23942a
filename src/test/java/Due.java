/** Counts the answers that are not as due, and prints them. */
final class Due {
    interface Deed {
        void happen();
    }

    private static String subject = "";
    private static int asked = 0;
    private static int wrong = 0;

    private Due() {
    }

    /** What the next answers are about: it is printed with each that is wrong. */
    static void about(String words) {
        subject = words + ": ";
    }

    static void is(String call, long want, long got) {
        asked++;
        if (got != want) {
            wrong++;
            System.out.println(subject + call + " answered " + got + ", due is " + want);
        }
    }

    static void yes(String call, boolean got) {
        is(call, 1, got ? 1 : 0);
    }

    static void no(String call, boolean got) {
        is(call, 0, got ? 1 : 0);
    }

    static void refusesArgument(String call, Deed deed) {
        throwsExactly(call, IllegalArgumentException.class, deed);
    }

    static void refusesState(String call, Deed deed) {
        throwsExactly(call, IllegalStateException.class, deed);
    }

    /** A test that ends by an exception is one wrong answer, and leaves the others to run. */
    static void happens(Deed test) {
        try {
            test.happen();
        } catch (RuntimeException thrown) {
            asked++;
            wrong++;
            System.out.println(subject + "ended by " + thrown);
        }
    }

    private static void throwsExactly(String call, Class<? extends RuntimeException> due, Deed deed) {
        asked++;
        Class<?> got = null;
        try {
            deed.happen();
        } catch (RuntimeException thrown) {
            got = thrown.getClass();
        }
        if (got != due) {
            wrong++;
            System.out.println(subject + call + " threw " + got + ", due is " + due);
        }
    }

    /** Ends the test with exit code 1 if an answer was wrong. */
    static void close() {
        System.out.println(asked + " answers asked for, " + wrong + " not as due");
        if (wrong != 0 || asked == 0) {
            System.exit(1);
        }
    }
}
