/** Counts the answers that are not due, and tells each of them. */
final class Check {
    private static int asked = 0;
    private static int wrong = 0;

    private Check() {
    }

    /** A call that answers nothing that is looked at. */
    interface Call {
        Object run();
    }

    static void same(String what, Object due, Object got) {
        asked++;
        if (!due.equals(got)) {
            wrong++;
            System.out.println(what + ": due is " + due + ", answered was " + got);
        }
    }

    /** What a call answers, or the whole name of what it throws: a class below the due one is told, too. */
    static String outcome(Call call) {
        try {
            return String.valueOf(call.run());
        } catch (Throwable thrown) {
            return "throws " + thrown.getClass().getName();
        }
    }

    /** A call must throw exactly this class, and change nothing that the digest tells. */
    static void refused(String what, SlantSlate slate, Class<?> due, Call call) {
        long before = slate.digest();
        same(what, "throws " + due.getName(), outcome(call));
        same(what + " changes nothing", before, slate.digest());
    }

    static void end(String name) {
        System.out.println(name + ": " + asked + " answers, " + wrong + " wrong");
        if (wrong > 0) {
            System.exit(1);
        }
    }
}
