/** Counts and prints the answers that are not the due ones. */
final class Check {
    /** A call whose exception is looked at. */
    interface Call {
        void run();
    }

    private static int wrong = 0;
    private static int checked = 0;

    private Check() {
    }

    static void same(String what, long got, long due) {
        checked++;
        if (got != due) {
            report(what + " answered " + got + ", due is " + due);
        }
    }

    static void same(String what, String got, String due) {
        checked++;
        if (!got.equals(due)) {
            report(what + " answered " + got + ", due is " + due);
        }
    }

    static void same(String what, double got, double due) {
        checked++;
        if (got != due) {
            report(what + " answered " + got + ", due is " + due);
        }
    }

    static void isTrue(String what, boolean got) {
        same(what, got ? 1 : 0, 1);
    }

    static void isFalse(String what, boolean got) {
        same(what, got ? 1 : 0, 0);
    }

    static void noPanel(String what, Call call) {
        same(what + " throws", thrownBy(call), "IllegalStateException");
    }

    static void outside(String what, Call call) {
        same(what + " throws", thrownBy(call), "IndexOutOfBoundsException");
    }

    static void refused(String what, Call call) {
        same(what + " throws", thrownBy(call), "IllegalArgumentException");
    }

    /** The exception's exact class: what the machine throws by itself is of a class below or beside. */
    static String thrownBy(Call call) {
        try {
            call.run();
            return "nothing";
        } catch (RuntimeException e) {
            return e.getClass().getSimpleName();
        }
    }

    private static void report(String text) {
        wrong++;
        if (wrong <= 50) {
            System.out.println(text);
        }
    }

    static void finish() {
        System.out.println(checked + " checks, " + wrong + " wrong");
        if (wrong > 0) {
            System.exit(1);
        }
    }
}
