import java.util.Arrays;

/** Runs of 512 made-up calls each, always the same ones, against the model. */
public final class WalkTest {
    private static final int WALKS = 4000;
    private static final int CALLS = 512;
    private static final int[] EDGES = {Integer.MIN_VALUE, -100000, -1, 0, 1, 12, 24, 100000, Integer.MAX_VALUE};

    private static long seed = 20261119;
    private static final long[] answered = new long[Calls.NAMES.length];
    private static final long[][] refused = new long[Calls.NAMES.length][3];

    public static void main(String[] args) {
        for (int walk = 0; walk < WALKS; walk++) {
            walk(walk);
        }
        for (int call = 0; call < Calls.NAMES.length; call++) {
            Check.yes(Calls.NAMES[call] + " was answered often", answered[call] > 1000);
        }
        for (int call : new int[] {0, 1, 2, 3, 6, 7, 8, 10}) {
            Check.yes(Calls.NAMES[call] + " was refused by the state", refused[call][2] > 100);
        }
        Check.end("WalkTest");
    }

    private static void walk(int walk) {
        PortolanHall h = new PortolanHall();
        Model m = new Model();
        int left = CALLS;
        int favourite = below(Calls.ASKING);
        int[][] start = start(walk % 4);
        for (int[] call : start) {
            step(walk, h, m, call[0], Arrays.copyOfRange(call, 1, 6));
            left--;
        }
        while (left > 0) {
            int call = below(10) < 4 ? below(Calls.ASKING) : Calls.ASKING + below(Calls.NAMES.length - Calls.ASKING);
            if (below(6) == 0) {
                call = favourite;
            }
            step(walk, h, m, call, arguments(call));
            left--;
        }
    }

    private static void step(int walk, PortolanHall h, Model m, int call, int[] a) {
        long due = Calls.due(m, call, a);
        Check.same("walk " + walk + ": " + Calls.NAMES[call] + Arrays.toString(a), Calls.real(h, call, a), due);
        if (due >= Model.INDEX && due <= Model.STATE) {
            refused[call][(int) (due - Model.INDEX)]++;
        } else {
            answered[call]++;
        }
    }

    /** A coast with pilots and reports; of the kinds 1 and 3 the errors grow large, of the kind 2 nothing is told. */
    private static int[][] start(int kind) {
        if (kind == 2) {
            return new int[0][];
        }
        int[][] calls = new int[24 + 4 + 30 + 3][];
        int n = 0;
        for (int point = 0; point < 24; point++) {
            int edge = point % 2 == 0 ? -500 : 500;
            int x = kind == 0 ? between(-500, 500) : edge;
            int y = kind == 0 ? between(-50, 50) : edge;
            calls[n++] = new int[] {0, point, x, y, between(1, 30), between(0, 2000)};
        }
        for (int pilot = 0; pilot < 4; pilot++) {
            int most = kind == 0 ? between(-30, 30) : pilot % 2 == 0 ? 30 : -30;
            calls[n++] = new int[] {1, most, most, 0, 0, 0};
        }
        for (int report = 0; report < 30; report++) {
            int from = report < 23 ? report : below(23);
            boolean back = kind == 0 && below(2) == 0;
            int pilot = kind == 0 ? below(4) : from % 2;
            calls[n++] = new int[] {2, pilot, back ? from + 1 : from, back ? from : from + 1, 0, 0};
        }
        for (int chart = 0; chart < 3; chart++) {
            calls[n++] = new int[] {3, between(10, 30), between(1000, 1200), 0, 0, 0};
        }
        return calls;
    }

    private static int[] arguments(int call) {
        int[] a = likely(call);
        if (below(12) == 0) {
            a[below(5)] = EDGES[below(EDGES.length)];
        }
        return a;
    }

    private static int[] likely(int call) {
        int chart = between(0, below(8) == 0 ? 12 : 8);
        int point = between(0, below(20) == 0 ? 24 : 23);
        int end = below(6) == 0 ? between(0, 23) : Math.min(23, point + below(9));
        int basin = between(0, 2);
        switch (call) {
            case 0: return new int[] {point, between(-501, 501), between(-501, 501), between(1, 99), between(0, 2000)};
            case 1: return new int[] {between(-31, 31), between(-31, 31), 0, 0, 0};
            case 2: return new int[] {between(0, 6), point, between(0, 23), 0, 0};
            case 3: return new int[] {between(0, 40), between(900, 1300), 0, 0, 0};
            case 4: return new int[] {between(0, 3), between(-10, 10), 0, 0, 0};
            case 5: return new int[] {between(0, 3), between(1, 30), between(1, 30), 0, 0};
            case 6: return new int[] {chart, between(0, 3), between(0, 2), between(1000, 2000), 0};
            case 7: return new int[] {chart, between(0, 8), point, end, 0};
            case 8: return new int[] {chart, between(-1000, 1000), between(-1000, 1000), 0, 0};
            case 9: return new int[] {chart, point, between(0, 23), 0, 0};
            case 10: return new int[] {chart, basin, between(49, 201), below(2), 0};
            case 11: return new int[] {chart, point, below(3) == 0 ? end : point, 0, 0};
            case 12: return new int[] {chart, between(0, 20), 0, 0, 0};
            case 13: return new int[] {between(0, 60), below(2), 0, 0, 0};
            case 14: return new int[] {chart, point, between(0, 5), 0, 0};
            case 15: return new int[] {chart, point, between(0, below(3) == 0 ? 12 : 3), 0, 0};
            case 16: return new int[] {chart, between(0, 6), 0, 0, 0};
            case 17: return new int[] {between(0, 20), between(0, 4), 0, 0, 0};
            case 18: return new int[] {chart, basin, between(0, 2), 0, 0};
            case 19: return new int[] {chart, between(0, 11), basin, 0, 0};
            default: return new int[] {chart, basin, 0, 0, 0};
        }
    }

    private static int between(int low, int high) {
        return low + below(high - low + 1);
    }

    private static int below(int bound) {
        seed = seed * 6364136223846793005L + 1442695040888963407L;
        return (int) ((seed >>> 33) % bound);
    }
}
