import java.util.ArrayList;
import java.util.Arrays;
import java.util.List;

/**
 * A call that throws changes nothing, nor does a question: the same run is made twice, once with the refused calls
 * (or the questions) in its midst; then both objects are asked for all that can be asked, in parts, as an object
 * answers 512 calls only, and for all that shows only when it goes on.
 */
public final class RefusalTest {
    private static final int PART = 210;

    /** A run that leaves charts with places beyond 9999, copies, pastes, islands, readings and hands. */
    private static final List<int[]> STORY = new ArrayList<>();

    /** Refused after the story; how it is refused stands first. */
    private static final int[][] REFUSED = {
        {0, 0, 24, 1, 1, 1, 1}, {1, 0, 1, 501, 1, 1, 1}, {2, 0, 1, 7, 7, 7, 7},
        {1, 1, 31, 0}, {1, 1, 0, 31},
        {0, 2, 6, 0, 1}, {1, 2, 0, 1, 1}, {0, 2, 0, 24, 1},
        {1, 3, 0, 1000}, {1, 3, 3, 2001}, {1, 3, 61, 1000},
        {0, 4, 4, 1}, {1, 4, 1, 10}, {1, 4, 0, -10},
        {0, 5, 4, 1, 2}, {1, 5, 1, 0, 2}, {1, 5, 1, 2, 100},
        {0, 6, 9, 0, 0, 2000}, {0, 6, 0, 4, 0, 2000}, {1, 6, 0, 0, 3, 2000}, {1, 6, 0, 0, 0, 999},
        {0, 7, 9, 0, 0, 3}, {0, 7, 1, 0, 0, 24}, {1, 7, 1, 0, 3, 2}, {1, 7, 1, 1, 2, 3},
        {2, 7, 0, 1, 0, 3}, {2, 7, 0, 3, 2, 20}, {2, 7, 5, 0, 16, 23}, {2, 7, 6, 5, 0, 5},
        {0, 8, 9, 0, 0}, {1, 8, 0, 1000, 0}, {1, 8, 0, 0, -1000},
        {0, 9, 9, 0, 1}, {0, 9, 0, 24, 1}, {0, 9, 0, 1, 24},
        {0, 10, 9, 0, 100, 0}, {0, 10, 0, 3, 100, 1}, {1, 10, 0, 0, 49, 0}, {1, 10, 0, 0, 201, 1},
        {2, 10, 0, 2, 100, 0}, {2, 10, 0, 1, 105, 0},
        {0, 11, 9, 0, 1}, {0, 11, 0, 0, 24}, {1, 11, 0, 3, 2},
        {0, 12, 9, 0}, {0, 12, 0, 3},
        {0, 13, 60, 1}, {0, 14, 0, 24, 0}, {1, 14, 0, 0, 6}, {0, 15, 0, 0, -1}, {1, 16, 0, 7}, {1, 17, 0, 5},
        {0, 17, 3, 0}, {1, 18, 0, 0, 3}, {0, 19, 0, 9, 0}, {0, 20, 0, 3}, {0, 21, 9, 0},
    };

    private static final int[][] NO_ROOM = {
        {2, 1, 0, 0}, {2, 2, 0, 0, 1}, {2, 3, 1, 2000}, {2, 6, 0, 0, 0, 2000}, {2, 8, 0, 1, 1},
    };

    public static void main(String[] args) {
        tell();
        storyIsTaken();
        List<int[]> asked = questions();
        long[] due = answers(STORY, List.of(), asked);
        for (int[] refused : REFUSED) {
            changesNothing(refused, due, asked);
        }
        questionsChangeNothing(due, asked);
        noRoom();
        Check.end("RefusalTest");
    }

    private static void add(int... call) {
        STORY.add(Arrays.copyOf(call, 6));
    }

    private static void tell() {
        for (int point = 0; point < 24; point++) {
            int edge = point % 2 == 0 ? -500 : 500;
            add(0, point, edge, edge, point + 1, 1000 + point);
        }
        add(1, 30, 30);
        add(1, -30, -30);
        for (int point = 0; point < 23; point++) {
            add(2, point % 2, point, point + 1);
        }
        add(3, 23, 1500);
        add(4, 1, 7);
        add(5, 1, 3, 30);
        add(6, 0, 1, 2, 1500);
        add(6, 0, 2, 1, 1500);
        add(6, 1, 1, 0, 1500);
        add(7, 2, 3, 4, 9);
        add(3, 5, 1500);
        add(3, 6, 1500);
        add(3, 6, 1499);
        add(8, 0, 5, 6);
        add(8, 2, 7, 8);
        add(6, 2, 0, 0, 1600);
        add(8, 7, 9, 9);
        add(9, 1, 2, 20);
        add(12, 7, 1);
        add(10, 2, 1, 150, 1);
        add(11, 1, 10, 12);
    }

    private static void storyIsTaken() {
        PortolanHall h = new PortolanHall();
        for (int[] call : STORY) {
            Check.yes("the story's " + Calls.NAMES[call[0]] + " is taken", run(h, List.of(call)) >= 0);
        }
    }

    /** Each question by itself, and runs that go on: what they answer shows the hands, readings and numbers. */
    private static List<int[]> questions() {
        List<int[]> all = new ArrayList<>();
        for (int chart = 0; chart < 8; chart++) {
            for (int point = 0; point < 24; point++) {
                for (int what = 0; what < 4; what++) {
                    all.add(new int[] {14, chart, point, what, 0, 0});
                }
                all.add(new int[] {15, chart, point, 2, 0, 0});
            }
            for (int what = 0; what < 7; what++) {
                all.add(new int[] {16, chart, what, 0, 0, 0});
            }
            for (int basin = 0; basin < 3; basin++) {
                all.add(new int[] {18, chart, basin, 2, 0, 0});
                all.add(new int[] {19, chart, 1, basin, 0, 0});
                all.add(new int[] {20, chart, basin, 0, 0, 0});
                all.add(new int[] {21, chart, basin, 0, 0, 0});
            }
        }
        for (int island = 0; island < 3; island++) {
            for (int what = 0; what < 5; what++) {
                all.add(new int[] {17, island, what, 0, 0, 0});
            }
        }
        for (int report = 0; report < 23; report++) {
            all.add(new int[] {13, report, 0, 0, 0, 0});
            all.add(new int[] {13, report, 1, 0, 0, 0});
        }
        goOn(all);
        return all;
    }

    private static void goOn(List<int[]> all) {
        while (all.size() % PART != 0) {
            all.add(new int[] {14, 0, 0, 0, 0, 0});
        }
        all.add(new int[] {3, 24, 1000, 0, 0, 0});
        all.add(new int[] {1, 1, 2, 0, 0, 0});
        all.add(new int[] {2, 2, 0, 23, 0, 0});
        all.add(new int[] {13, 23, 1, 0, 0, 0});
        all.add(new int[] {8, 0, 1, 2, 0, 0});
        for (int copyist = 0; copyist < 4; copyist++) {
            all.add(new int[] {6, 0, copyist, 2, 1500, 0});
            for (int point = 0; point < 24; point++) {
                all.add(new int[] {14, 8 + copyist, point, 0, 0, 0});
                all.add(new int[] {14, 8 + copyist, point, 2, 0, 0});
            }
        }
    }

    /** What is asked after the story and the calls in between, a fresh object for each part. */
    private static long[] answers(List<int[]> story, List<int[]> between, List<int[]> asked) {
        long[] answers = new long[asked.size()];
        PortolanHall h = null;
        for (int i = 0; i < answers.length; i++) {
            if (i % PART == 0) {
                h = new PortolanHall();
                run(h, story);
                run(h, between);
            }
            answers[i] = run(h, List.of(asked.get(i)));
        }
        return answers;
    }

    private static long run(PortolanHall h, List<int[]> calls) {
        long last = 0;
        for (int[] call : calls) {
            last = Calls.real(h, call[0], Arrays.copyOfRange(call, 1, 6));
        }
        return last;
    }

    private static void changesNothing(int[] refused, long[] due, List<int[]> asked) {
        int[] call = Arrays.copyOf(Arrays.copyOfRange(refused, 1, refused.length), 6);
        String told = Calls.NAMES[call[0]] + Arrays.toString(call);
        PortolanHall h = new PortolanHall();
        run(h, STORY);
        Check.same(told + " is refused", run(h, List.of(call)), Model.INDEX + refused[0]);
        long[] got = answers(STORY, List.of(call), asked);
        Check.same("ahead of " + told + " as behind it, to", Arrays.mismatch(due, got), -1);
    }

    private static void questionsChangeNothing(long[] due, List<int[]> asked) {
        List<int[]> all = new ArrayList<>();
        for (int[] question : asked) {
            if (question[0] >= Calls.ASKING) {
                all.add(question);
            }
        }
        for (int from = 0; from + PART <= all.size(); from += PART) {
            long[] got = answers(STORY, all.subList(from, from + PART), asked);
            Check.same("questions change nothing, to", Arrays.mismatch(due, got), -1);
        }
    }

    /** A call for which there is no room: everything is as it was, the first and the last one too. */
    private static void noRoom() {
        List<int[]> full = new ArrayList<>();
        for (int i = 0; i < 6; i++) {
            full.add(new int[] {1, i, -i, 0, 0, 0});
        }
        for (int i = 0; i < 60; i++) {
            full.add(new int[] {2, i % 6, i % 24, (i + 5) % 24, 0, 0});
        }
        for (int i = 0; i < 12; i++) {
            full.add(new int[] {3, 60 - i, 1000 + i, 0, 0, 0});
        }
        for (int i = 0; i < 20; i++) {
            full.add(new int[] {8, i % 12, i, -i, 0, 0});
        }
        List<int[]> asked = new ArrayList<>();
        for (int chart = 0; chart < 13; chart++) {
            asked.add(new int[] {16, chart, 0, 0, 0, 0});
            asked.add(new int[] {16, chart, 2, 0, 0, 0});
        }
        for (int island = 0; island < 21; island++) {
            asked.add(new int[] {17, island, 1, 0, 0, 0});
        }
        for (int report = 0; report < 61; report++) {
            asked.add(new int[] {13, report, 1, 0, 0, 0});
        }
        long[] due = answers(full, List.of(), asked);
        for (int[] refused : NO_ROOM) {
            int[] call = Arrays.copyOf(Arrays.copyOfRange(refused, 1, refused.length), 6);
            String told = Calls.NAMES[call[0]];
            Check.same(told + " without room", last(full, call), Model.INDEX + refused[0]);
            long[] got = answers(full, List.of(call, call), asked);
            Check.same("ahead of " + told + " as behind it, to", Arrays.mismatch(due, got), -1);
        }
    }

    private static long last(List<int[]> story, int[] call) {
        PortolanHall h = new PortolanHall();
        run(h, story);
        return run(h, List.of(call));
    }
}
