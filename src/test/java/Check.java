/** What the tests have in common: counts of right and wrong answers, and what is printed of them. */
final class Check {
    interface Call {
        long answer();
    }

    interface Deed {
        void happen();
    }

    private static int passed = 0;
    private static int failed = 0;

    private Check() {
    }

    static void same(String what, long got, long due) {
        if (got == due) {
            passed++;
        } else {
            failed++;
            System.out.println(what + " answered " + got + ", due is " + due);
        }
    }

    static void yes(String what, boolean holds) {
        same(what, holds ? 1 : 0, 1);
    }

    static void index(String what, Deed deed) {
        refuses(what, IndexOutOfBoundsException.class, deed);
    }

    static void argument(String what, Deed deed) {
        refuses(what, IllegalArgumentException.class, deed);
    }

    static void state(String what, Deed deed) {
        refuses(what, IllegalStateException.class, deed);
    }

    /** Exactly the class that is due: what the machine throws is of a class below it. */
    private static void refuses(String what, Class<?> due, Deed deed) {
        Class<?> got = thrownBy(deed);
        if (got == due) {
            passed++;
        } else {
            failed++;
            System.out.println(what + " threw " + got + ", due is " + due);
        }
    }

    static Class<?> thrownBy(Deed deed) {
        try {
            deed.happen();
            return null;
        } catch (RuntimeException e) {
            return e.getClass();
        }
    }

    static void end(String test) {
        System.out.println(test + ": " + passed + " passed, " + failed + " failed");
        if (failed != 0 || passed == 0) {
            System.exit(1);
        }
    }
}
