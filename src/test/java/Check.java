/** What the tests have in common: counts of right and wrong answers, and what is printed of them. */
final class Check {
    interface Call {
        long answer();
    }

    interface Deed {
        void happen();
    }

    private static int passed = 0;
    private static int failed = 0;
    private static String about = "";

    private Check() {
    }

    /** What the checks from now on are about: it stands ahead of each that fails. */
    static void about(String test) {
        about = test + ": ";
    }

    static int made() {
        return passed + failed;
    }

    static void same(String what, long got, long due) {
        if (got == due) {
            passed++;
        } else {
            failed++;
            System.out.println(about + what + " answered " + got + ", due is " + due);
        }
    }

    static void yes(String what, boolean holds) {
        same(what, holds ? 1 : 0, 1);
    }

    static void taken(String what, Deed deed) {
        refuses(what, null, deed);
    }

    static void index(String what, Deed deed) {
        refuses(what, IndexOutOfBoundsException.class, deed);
    }

    static void argument(String what, Deed deed) {
        refuses(what, IllegalArgumentException.class, deed);
    }

    static void state(String what, Deed deed) {
        refuses(what, IllegalStateException.class, deed);
    }

    /** Exactly the class that is due, as what the machine throws is of a class below it; null if nothing is due. */
    private static void refuses(String what, Class<?> due, Deed deed) {
        Class<?> got = thrownBy(deed);
        if (got == due) {
            passed++;
        } else {
            failed++;
            System.out.println(about + what + " threw " + got + ", due is " + due);
        }
    }

    static Class<?> thrownBy(Deed deed) {
        try {
            deed.happen();
            return null;
        } catch (RuntimeException e) {
            return e.getClass();
        }
    }

    static void end(String test) {
        System.out.println(test + ": " + passed + " passed, " + failed + " failed");
        if (failed != 0 || passed == 0) {
            System.exit(1);
        }
    }
}
