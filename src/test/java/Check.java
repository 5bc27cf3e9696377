/** What the tests share: named tests, checks of answers and of exceptions, and the exit code. */
final class Check {
    private static int tests = 0;
    private static int wrong = 0;
    private static int wrongBefore = 0;
    private static String current = "";

    private Check() {
    }

    /** A call of the class under test. */
    interface Call {
        void make();
    }

    static void test(String name, Call body) {
        tests++;
        current = name;
        wrongBefore = wrong;
        try {
            body.make();
        } catch (RuntimeException e) {
            fail("unexpected " + e);
        }
        if (wrong > wrongBefore) {
            System.out.println("FAILED: " + name);
        }
    }

    /** A test that holds the class to one sentence of the document: of a promise, or of "Terms", 0. */
    static void sentence(int promise, String sentence, Call body) {
        sentence(promise, sentence, "", body);
    }

    /** The case tells apart the tests of a sentence that names several. */
    static void sentence(int promise, String sentence, String theCase, Call body) {
        Document.hold(promise, sentence);
        String section = promise == 0 ? "Terms" : "Promise " + promise;
        test(section + ", \"" + sentence + "\"" + (theCase.isEmpty() ? "" : ": " + theCase), body);
    }

    static void same(String what, long got, long want) {
        if (got != want) {
            fail(what + " answered " + got + ", due is " + want);
        }
    }

    static void same(String what, double got, double want) {
        if (Double.compare(got, want) != 0) {
            fail(what + " answered " + got + ", due is " + want);
        }
    }

    static void same(String what, String got, String want) {
        if (!got.equals(want)) {
            fail(what + " answered " + got + ", due is " + want);
        }
    }

    static void yes(String what, boolean got) {
        if (!got) {
            fail(what + " answered false, due is true");
        }
    }

    static void no(String what, boolean got) {
        if (got) {
            fail(what + " answered true, due is false");
        }
    }

    /** Exactly this class: a subclass is another exception. */
    static void fails(String what, Class<? extends RuntimeException> due, Call call) {
        try {
            call.make();
        } catch (RuntimeException e) {
            if (e.getClass() != due) {
                fail(what + " throws " + e.getClass().getName() + ", due is " + due.getName());
            }
            return;
        }
        fail(what + " throws nothing, due is " + due.getName());
    }

    static void fail(String message) {
        wrong++;
        System.out.println(current + ": " + message);
    }

    /** Prints the count, and ends the program with 1 if anything was wrong. */
    static void end() {
        System.out.println(tests + " tests, " + wrong + " wrong answers");
        if (wrong > 0 || tests == 0) {
            System.exit(1);
        }
    }
}
