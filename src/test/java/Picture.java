import java.util.ArrayList;
import java.util.List;

/** What a hall answers of all that it has: of a small one, as an object is used for 512 calls only. */
final class Picture {
    private static final int CHARTS = 3;

    private Picture() {
    }

    static List<Integer> of(PortolanHall h) {
        List<Integer> all = new ArrayList<>();
        for (int chart = 0; chart < CHARTS && has(h, chart); chart++) {
            chart(h, chart, all);
        }
        if (has(h, CHARTS)) {
            throw new IllegalStateException("too many charts for a picture");
        }
        for (int island = 0; island < 20 && hasIsland(h, island); island++) {
            all.add(h.ofIsland(island, 0));
            all.add(h.ofIsland(island, 3));
        }
        return all;
    }

    /** As of a hall, and what shows only when it goes on: the hands, the readings, the next numbers. */
    static List<Integer> withWhatComes(PortolanHall h) {
        List<Integer> all = of(h);
        for (int copyist = 0; copyist < 4; copyist++) {
            all.add(h.hand(copyist, 0));
        }
        all.add(number(() -> h.pilot(0, 0)));
        all.add(number(() -> h.report(0, 0, 23)));
        all.add(number(() -> h.told(0, true)));
        all.add(number(() -> h.told(1, true)));
        all.add(number(() -> h.island(0, 1, 1)));
        int copy = number(() -> h.copy(0, 0, PortolanHall.PRICKED, 2000));
        for (int point = 0; point < 4 && copy >= 0; point++) {
            all.add(h.at(copy, point, 2));
        }
        all.add(copy);
        return all;
    }

    private static void chart(PortolanHall h, int chart, List<Integer> all) {
        for (int point = 0; point < 24; point++) {
            all.add(h.at(chart, point, 0));
            all.add(h.at(chart, point, 1));
            all.add(h.at(chart, point, 2));
            all.add(h.chain(chart, point, 1));
        }
        for (int what = 0; what < 7; what++) {
            all.add(h.of(chart, what));
        }
        for (int basin = 0; basin < 3; basin++) {
            all.add(h.fit(chart, basin, 2));
            all.add(h.kin(chart, basin));
            all.add(h.date(chart, basin));
            all.add(h.shared(chart, chart, basin));
        }
    }

    private static boolean has(PortolanHall h, int chart) {
        return number(() -> h.of(chart, 0)) >= 0;
    }

    private static boolean hasIsland(PortolanHall h, int island) {
        return number(() -> h.ofIsland(island, 0)) >= 0;
    }

    /** What the call answers, or a number below all answers. */
    private static int number(Asked call) {
        try {
            return call.answer();
        } catch (RuntimeException e) {
            return Integer.MIN_VALUE;
        }
    }

    private interface Asked {
        int answer();
    }
}
