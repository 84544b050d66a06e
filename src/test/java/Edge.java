/** The last value that a range allows and the first that it doesn't, at both of its ends. */
final class Edge {
    interface With {
        void call(int value);
    }

    private Edge() {
    }

    /** Values from low to high are taken; those outside are refused with an IndexOutOfBoundsException. */
    static void indexes(String what, int low, int high, With call) {
        takes(what, low, high, call);
        for (int value : outside(low, high)) {
            Check.index(what + " " + value, () -> call.call(value));
        }
    }

    /** Values from low to high are taken; those outside are refused with an IllegalArgumentException. */
    static void arguments(String what, int low, int high, With call) {
        takes(what, low, high, call);
        for (int value : outside(low, high)) {
            Check.argument(what + " " + value, () -> call.call(value));
        }
    }

    private static void takes(String what, int low, int high, With call) {
        Check.taken(what + " " + low, () -> call.call(low));
        Check.taken(what + " " + high, () -> call.call(high));
    }

    private static int[] outside(int low, int high) {
        return new int[] {low - 1, high + 1, Integer.MIN_VALUE, Integer.MAX_VALUE};
    }
}
