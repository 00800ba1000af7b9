/** Counts the tests of one program; a test is a body in which every check must hold. */
final class Checks {
    interface Body {
        void run();
    }

    private static int passed = 0;
    private static int failed = 0;
    private static boolean holds = true;
    private static String current = "";

    private Checks() {
    }

    static void test(String name, Body body) {
        current = name;
        holds = true;
        try {
            body.run();
        } catch (RuntimeException | Error thrown) {
            wrong("threw " + thrown);
        }
        if (holds) {
            passed++;
        } else {
            failed++;
        }
    }

    static void same(String what, long got, long due) {
        if (got != due) {
            wrong(what + " answered " + got + ", due is " + due);
        }
    }

    static void same(String what, double got, double due) {
        if (got != due) {
            wrong(what + " answered " + got + ", due is " + due);
        }
    }

    static void same(String what, String got, String due) {
        if (!got.equals(due)) {
            wrong(what + " answered \"" + got + "\", due is \"" + due + "\"");
        }
    }

    static void yes(String what, boolean got) {
        if (!got) {
            wrong(what + " answered false, due is true");
        }
    }

    static void no(String what, boolean got) {
        if (got) {
            wrong(what + " answered true, due is false");
        }
    }

    /** The class must be the very one: what the machine throws is of a class below it. */
    static void fails(String what, Class<? extends RuntimeException> due, Body body) {
        try {
            body.run();
        } catch (RuntimeException thrown) {
            if (thrown.getClass() != due) {
                wrong(what + " threw " + thrown + ", due is " + due.getName());
            }
            return;
        }
        wrong(what + " threw nothing, due is " + due.getName());
    }

    static void wrong(String what) {
        holds = false;
        System.out.println("wrong in [" + current + "]: " + what);
    }

    /** The last line that a program prints is read by .ci/run. */
    static void end() {
        System.out.println(passed + " passed, " + failed + " failed");
        if (failed != 0) {
            System.exit(1);
        }
    }
}
