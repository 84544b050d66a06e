/** Promises 5 to 8: chart, hand, reads, copy. */
public final class MakingTest {
    private static final int MOST = Integer.MAX_VALUE;
    private static final int LEAST = Integer.MIN_VALUE;

    public static void main(String[] args) {
        chartFromFirstReports();
        chartInRounds();
        chartTakesMeans();
        chartKeepsPlaces();
        chartFarAway();
        chartRefuses();
        hands();
        readings();
        copyPricked();
        copyByGrid();
        copyByEye();
        copyNames();
        copyFrame();
        copyStands();
        copyRefuses();
        Check.end("MakingTest");
    }

    private static void place(PortolanHall h, int chart, int point, int x, int y) {
        Check.same("x of " + point + " on " + chart, h.at(chart, point, 0), x);
        Check.same("y of " + point + " on " + chart, h.at(chart, point, 1), y);
    }

    private static void unknown(PortolanHall h, int chart, int point) {
        place(h, chart, point, PortolanHall.NOWHERE, PortolanHall.NOWHERE);
        Check.same("source of unknown", h.at(chart, point, 3), PortolanHall.NONE);
    }

    private static void chartFromFirstReports() {
        PortolanHall h = new PortolanHall();
        h.coast(0, 5, -6, 70, 1000);
        h.coast(1, 15, 14, 71, 1000);
        h.coast(2, -85, 24, 72, 1000);
        h.pilot(0, 0);
        h.report(0, 0, 1);
        h.report(0, 2, 1);
        h.report(0, 8, 9);
        Check.same("first chart", h.chart(1, 0), 0);
        Check.same("second chart", h.chart(3, 2000), 1);
        place(h, 0, 0, 5, -6);
        place(h, 0, 1, 15, 14);
        unknown(h, 0, 2);
        place(h, 1, 2, -85, 24);
        unknown(h, 1, 8);
        unknown(h, 1, 9);
        Check.same("name of a known one", h.at(0, 0, 2), 70);
        Check.same("name of an unknown one", h.at(0, 2, 2), 72);
        Check.same("source of a known one", h.at(1, 2, 3), PortolanHall.NONE);
        Check.same("year", h.of(0, 0), 0);
        Check.same("year", h.of(1, 0), 2000);
        for (int basin = 0; basin < 3; basin++) {
            Check.same("scale", h.of(0, 3 + basin), 100);
        }
        Check.same("islands", h.of(0, 2), 0);
        Check.same("known", h.of(0, 1), 2);
        Check.same("known", h.of(1, 1), 3);
    }

    /** Point 2 has a place from 0 in the first round, so what 1 gives it does not count. */
    private static void chartInRounds() {
        PortolanHall h = new PortolanHall();
        h.coast(1, 100, 0, 2, 1000);
        h.coast(2, 200, 0, 3, 1000);
        h.coast(3, 300, 0, 4, 1000);
        h.pilot(0, 0);
        h.pilot(0, 10);
        h.report(1, 0, 1);
        h.report(1, 1, 2);
        h.report(0, 0, 2);
        h.report(1, 3, 2);
        h.report(1, 1, 3);
        h.chart(5, 1500);
        place(h, 0, 1, 110, 0);
        place(h, 0, 2, 200, 0);
        place(h, 0, 3, ((200 + 110) + (110 + 220)) / 2, 0);
        h.chart(2, 1500);
        place(h, 1, 2, 220, 0);
        unknown(h, 1, 3);
    }

    private static void chartTakesMeans() {
        PortolanHall h = new PortolanHall();
        h.coast(1, 10, -10, 2, 1000);
        h.coast(2, 101, -101, 3, 1000);
        h.pilot(0, 0);
        h.pilot(0, 10);
        h.pilot(0, -10);
        h.report(1, 0, 1);
        h.report(0, 0, 1);
        h.chart(2, 1500);
        place(h, 0, 1, 10, -10);
        h.report(0, 0, 2);
        h.report(2, 2, 0);
        h.report(1, 0, 2);
        h.report(1, 0, 2);
        h.chart(6, 1500);
        place(h, 1, 2, (101 + 91 + 111 + 111) / 4, -(101 + 91 + 111 + 111) / 4);
        place(h, 1, 1, 10, -10);
    }

    private static void chartKeepsPlaces() {
        PortolanHall h = new PortolanHall();
        h.coast(1, 100, 50, 2, 1000);
        h.pilot(0, 30);
        h.report(0, 0, 1);
        h.report(0, 1, 0);
        h.chart(2, 1500);
        place(h, 0, 0, 0, 0);
        place(h, 0, 1, 130, 65);
    }

    /** Two pilots go to and fro; the errors grow beyond what a paste or a shrinking may reach. */
    static PortolanHall zigzag() {
        PortolanHall h = new PortolanHall();
        for (int point = 0; point < 24; point++) {
            int edge = point % 2 == 0 ? -500 : 500;
            h.coast(point, edge, edge, point + 1, 1000);
        }
        h.pilot(30, 30);
        h.pilot(-30, -30);
        for (int point = 0; point < 23; point++) {
            h.report(point % 2, point, point + 1);
        }
        h.chart(23, 1500);
        return h;
    }

    private static void chartFarAway() {
        PortolanHall h = zigzag();
        // to: 700 and 210 more, 1300 and 390 more; fro: -1300 and 390 less of it, -700 and 210 less of it.
        place(h, 0, 1, -500 + 910, -500 + 1690);
        place(h, 0, 2, -500 + 910 - 910, -500 + 1690 - 490);
        place(h, 0, 23, -500 + 910, -500 + 11 * 1200 + 1690);
        Check.same("a copy of it", h.copy(0, 0, PortolanHall.EYE, 1500), 1);
        place(h, 1, 23, 410, 14390);
    }

    private static void chartRefuses() {
        PortolanHall h = new PortolanHall();
        h.pilot(0, 0);
        h.report(0, 0, 1);
        h.report(0, 0, 2);
        Check.argument("reports 0", () -> h.chart(0, 1500));
        Check.argument("reports -1", () -> h.chart(-1, 1500));
        Check.argument("reports 3 of 2", () -> h.chart(3, 1500));
        Check.argument("reports most", () -> h.chart(MOST, 1500));
        Check.argument("reports least", () -> h.chart(LEAST, 1500));
        Check.argument("year -1", () -> h.chart(1, -1));
        Check.argument("year 2001", () -> h.chart(1, 2001));
        for (int i = 0; i < 12; i++) {
            Check.same("chart", h.chart(1 + i % 2, i % 2 * 2000), i);
        }
        Check.state("a 13th chart", () -> h.chart(1, 1500));
        Check.argument("a 13th chart, year 2001", () -> h.chart(1, 2001));
        Check.argument("a 13th chart, reports 3", () -> h.chart(3, 2000));
    }

    private static void hands() {
        PortolanHall h = new PortolanHall();
        Check.same("hand before", h.hand(0, 9), 0);
        Check.same("hand before", h.hand(0, -9), 9);
        Check.same("hand before", h.hand(3, 4), 0);
        Check.same("hand before", h.hand(0, 0), -9);
        Check.index("copyist 4", () -> h.hand(4, 0));
        Check.index("copyist -1", () -> h.hand(-1, 0));
        Check.index("copyist most", () -> h.hand(MOST, 0));
        Check.index("copyist 4 and hand 10", () -> h.hand(4, 10));
        Check.argument("hand 10", () -> h.hand(3, 10));
        Check.argument("hand -10", () -> h.hand(3, -10));
        Check.argument("hand least", () -> h.hand(3, LEAST));
        Check.same("hand stays", h.hand(3, 1), 4);
    }

    private static void readings() {
        PortolanHall h = new PortolanHall();
        Check.index("copyist 4", () -> h.reads(4, 1, 1));
        Check.index("copyist -1", () -> h.reads(-1, 1, 1));
        Check.index("copyist 4 and name 0", () -> h.reads(4, 0, 1));
        Check.argument("name 0", () -> h.reads(0, 0, 1));
        Check.argument("name 100", () -> h.reads(0, 100, 1));
        Check.argument("as 0", () -> h.reads(0, 1, 0));
        Check.argument("as 100", () -> h.reads(3, 1, 100));
        Check.argument("name least", () -> h.reads(0, LEAST, 1));
        Check.argument("as most", () -> h.reads(0, 1, MOST));
        PortolanHall copied = plain();
        copied.reads(1, 1, 99);
        Check.argument("as 100", () -> copied.reads(1, 2, 100));
        copied.copy(0, 1, PortolanHall.GRID, 1500);
        Check.same("read as another", copied.at(1, 0, 2), 99);
        Check.same("read as itself", copied.at(1, 1, 2), 2);
    }

    /** Points 0 to 5 are known: 1 to 5 at (13, -13), (-12, 12), (4, -4), (-4, 4), (10, -10). */
    private static PortolanHall plain() {
        PortolanHall h = new PortolanHall();
        int[] x = {0, 13, -12, 4, -4, 10};
        h.pilot(0, 0);
        for (int point = 1; point < 6; point++) {
            h.coast(point, x[point], -x[point], point + 1, 1000);
        }
        for (int point = 1; point < 6; point++) {
            h.report(0, 0, point);
        }
        h.chart(5, 1500);
        return h;
    }

    private static void copyPricked() {
        PortolanHall h = plain();
        h.hand(2, 5);
        Check.same("copy", h.copy(0, 2, PortolanHall.PRICKED, 1500), 1);
        place(h, 1, 0, 0, 0);
        place(h, 1, 1, 13, -13);
        place(h, 1, 2, -12, 12);
        unknown(h, 1, 6);
        Check.same("source", h.at(1, 1, 3), 0);
        Check.same("source of the point 0", h.at(1, 0, 3), 0);
        Check.same("source on the pattern", h.at(0, 1, 3), PortolanHall.NONE);
        Check.same("year", h.of(1, 0), 1500);
        Check.same("copy of the copy", h.copy(1, 2, PortolanHall.PRICKED, 2000), 2);
        Check.same("source on it", h.at(2, 1, 3), 1);
        Check.same("year of it", h.of(2, 0), 2000);
    }

    private static void copyByGrid() {
        PortolanHall h = plain();
        h.hand(2, 5);
        h.copy(0, 2, PortolanHall.GRID, 1500);
        place(h, 1, 0, 0, 0);
        place(h, 1, 1, 10, -10);
        place(h, 1, 2, -10, 10);
        place(h, 1, 3, 0, 0);
        place(h, 1, 4, 0, 0);
        place(h, 1, 5, 10, -10);
        unknown(h, 1, 7);
        Check.same("source", h.at(1, 4, 3), 0);
    }

    private static void copyByEye() {
        PortolanHall h = plain();
        h.hand(2, 9);
        h.hand(3, -4);
        h.copy(0, 2, PortolanHall.EYE, 1500);
        place(h, 1, 0, 9, -9);
        place(h, 1, 2, -3, 3);
        unknown(h, 1, 23);
        h.copy(0, 3, PortolanHall.EYE, 1500);
        place(h, 2, 1, 9, -9);
        h.hand(3, 1);
        h.copy(2, 3, PortolanHall.EYE, 1501);
        place(h, 3, 1, 10, -10);
        place(h, 2, 1, 9, -9);
        h.copy(0, 0, PortolanHall.EYE, 1501);
        place(h, 4, 1, 13, -13);
    }

    private static void copyNames() {
        PortolanHall h = plain();
        h.reads(0, 2, 3);
        h.reads(0, 3, 4);
        h.reads(0, 24, 99);
        h.reads(0, 99, 24);
        h.reads(1, 5, 50);
        h.copy(0, 0, PortolanHall.PRICKED, 1500);
        Check.same("read once, not twice", h.at(1, 1, 2), 3);
        Check.same("read as another", h.at(1, 2, 2), 4);
        Check.same("of an unknown point", h.at(1, 23, 2), 99);
        Check.same("of another copyist", h.at(1, 4, 2), 5);
        h.copy(1, 3, PortolanHall.PRICKED, 2000);
        Check.same("the name 99, not told", h.at(2, 23, 2), 99);
        Check.same("the name 1, not told", h.at(2, 0, 2), 1);
        h.copy(1, 0, PortolanHall.EYE, 1500);
        Check.same("read again", h.at(3, 1, 2), 4);
        Check.same("read back", h.at(3, 23, 2), 24);
        h.reads(0, 2, 2);
        h.copy(0, 0, PortolanHall.GRID, 1500);
        Check.same("told as itself", h.at(4, 1, 2), 2);
        Check.same("told as before", h.at(4, 2, 2), 4);
        h.reads(0, 3, 77);
        h.copy(0, 0, PortolanHall.GRID, 1500);
        Check.same("told anew", h.at(5, 2, 2), 77);
        Check.same("the older copy stays", h.at(4, 2, 2), 4);
    }

    private static void copyFrame() {
        PortolanHall h = plain();
        h.shrink(0, 0, 60, true);
        h.shrink(0, 2, 200, true);
        h.island(0, 1, 1);
        h.island(0, 2, 2);
        h.island(0, 3, 3);
        h.paint(0, 1);
        h.copy(0, 0, PortolanHall.EYE, 1500);
        Check.same("scale", h.of(1, 3), 60);
        Check.same("scale", h.of(1, 4), 100);
        Check.same("scale", h.of(1, 5), 200);
        Check.same("islands", h.of(1, 2), 2);
        Check.yes("island 0", h.paint(1, 0));
        Check.yes("no island 1", !h.paint(1, 1));
        Check.yes("island 2", h.paint(1, 2));
        Check.same("islands of the pattern", h.of(0, 2), 2);
        h.shrink(1, 0, 61, true);
        Check.same("scale of the pattern", h.of(0, 3), 60);
    }

    /** What happens to the pattern later does not reach its copy, nor the other way round. */
    private static void copyStands() {
        PortolanHall h = plain();
        h.copy(0, 0, PortolanHall.PRICKED, 1500);
        h.lose(0, 1, 1);
        h.exchange(0, 2, 3);
        h.island(0, 0, 0);
        h.shrink(0, 0, 200, false);
        place(h, 1, 1, 13, -13);
        place(h, 1, 2, -12, 12);
        Check.same("name", h.at(1, 2, 2), 3);
        Check.same("islands", h.of(1, 2), 0);
        h.lose(1, 3, 3);
        place(h, 0, 3, 8, -8);
    }

    private static void copyRefuses() {
        PortolanHall h = plain();
        Check.index("chart 1 of one", () -> h.copy(1, 0, 0, 1500));
        Check.index("chart -1", () -> h.copy(-1, 0, 0, 1500));
        Check.index("chart 12", () -> h.copy(12, 0, 0, 1500));
        Check.index("copyist 4", () -> h.copy(0, 4, 0, 1500));
        Check.index("copyist -1", () -> h.copy(0, -1, 0, 1500));
        Check.index("copyist 4 and way 3", () -> h.copy(0, 4, 3, 1500));
        Check.index("chart 1 and year", () -> h.copy(1, 0, 0, 2001));
        Check.argument("way 3", () -> h.copy(0, 0, 3, 1500));
        Check.argument("way -1", () -> h.copy(0, 0, -1, 1500));
        Check.argument("year 1499", () -> h.copy(0, 0, 0, 1499));
        Check.argument("year 2001", () -> h.copy(0, 0, 0, 2001));
        Check.argument("year -1", () -> h.copy(0, 0, 0, -1));
        Check.same("same year", h.copy(0, 3, 2, 1500), 1);
        for (int i = 2; i < 12; i++) {
            Check.same("copy", h.copy(i - 1, i % 4, i % 3, 1500), i);
        }
        Check.state("a 13th chart", () -> h.copy(0, 0, 0, 1500));
        Check.argument("a 13th chart, year 1499", () -> h.copy(0, 0, 0, 1499));
        Check.argument("a 13th chart, way 3", () -> h.copy(0, 0, 3, 1500));
        Check.index("a 13th chart, copyist 4", () -> h.copy(0, 4, 0, 1500));
        Check.index("a 13th chart, of chart 12", () -> h.copy(12, 0, 0, 1500));
    }
}
