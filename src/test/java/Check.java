/** Counts the answers that are not due, and tells each of them. */
final class Check {
    private static int tests = 0;
    private static int asked = 0;
    private static int wrong = 0;
    private static String heading = "";

    private Check() {
    }

    /** A call that answers nothing that is looked at. */
    interface Call {
        Object run();
    }

    /** What is wrong in the body is told behind the name; a test that asks for nothing is wrong, too. */
    static void test(String name, Runnable body) {
        int askedBefore = asked;
        heading = name + ": ";
        tests++;
        try {
            body.run();
        } catch (Throwable thrown) {
            tell("it came to no end: " + thrown);
        }
        if (asked == askedBefore) {
            tell("it asked for nothing");
        }
        heading = "";
    }

    static void same(String what, Object due, Object got) {
        asked++;
        if (!due.equals(got)) {
            tell(what + ": due is " + due + ", answered was " + got);
        }
    }

    /** What a call answers, or the whole name of what it throws: a class below the due one is told, too. */
    static String outcome(Call call) {
        try {
            return String.valueOf(call.run());
        } catch (Throwable thrown) {
            return "throws " + thrown.getClass().getName();
        }
    }

    /** A call must throw exactly this class, and change nothing that the digest tells. */
    static void refused(String what, SlantSlate slate, Class<?> due, Call call) {
        long before = slate.digest();
        same(what, "throws " + due.getName(), outcome(call));
        same(what + " changes nothing", before, slate.digest());
    }

    private static void tell(String text) {
        wrong++;
        System.out.println(heading + text);
    }

    static void end(String name) {
        String told = tests == 0 ? "" : tests + " tests, ";
        System.out.println(name + ": " + told + asked + " answers, " + wrong + " wrong");
        if (wrong > 0) {
            System.exit(1);
        }
    }
}
