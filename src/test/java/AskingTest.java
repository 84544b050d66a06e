/** Promises 16 to 23: at, chain, of, ofIsland, fit, shared, kin, date. */
public final class AskingTest {
    private static final int MOST = Integer.MAX_VALUE;
    private static final int LEAST = Integer.MIN_VALUE;
    private static final int NOWHERE = PortolanHall.NOWHERE;
    private static final int NONE = PortolanHall.NONE;

    public static void main(String[] args) {
        at();
        atRefuses();
        chains();
        chainsChange();
        chainsOfTwelve();
        chainRefuses();
        of();
        ofIsland();
        fits();
        fitsRound();
        fitRefuses();
        sharedErrors();
        sharedNames();
        sharedIslands();
        sharedRefuses();
        kins();
        kinRefuses();
        dates();
        dateRefuses();
        Check.end("AskingTest");
    }

    /** Chart 0 knows the points 0 to 3, without errors, at (0, 0), (10, 20), (-30, 40), (50, -60). */
    private static PortolanHall four() {
        PortolanHall h = new PortolanHall();
        h.coast(1, 10, 20, 2, 1100);
        h.coast(2, -30, 40, 3, 1200);
        h.coast(3, 50, -60, 4, 1300);
        h.coast(4, 7, 7, 5, 1400);
        h.pilot(0, 0);
        h.report(0, 0, 1);
        h.report(0, 0, 2);
        h.report(0, 0, 3);
        h.chart(3, 1500);
        return h;
    }

    private static void at() {
        PortolanHall h = four();
        h.hand(0, 3);
        h.copy(0, 0, PortolanHall.EYE, 1500);
        int[] known = {-27, 37, 3, 0, 3, -3};
        int[] unknown = {NOWHERE, NOWHERE, 5, NONE, NOWHERE, NOWHERE};
        int[] first = {-30, 40, 3, NONE, 0, 0};
        for (int what = 0; what < 6; what++) {
            Check.same("at a known point " + what, h.at(1, 2, what), known[what]);
            Check.same("at an unknown point " + what, h.at(1, 4, what), unknown[what]);
            Check.same("at a point by reports " + what, h.at(0, 2, what), first[what]);
        }
        Check.same("the last point", h.at(1, 23, 2), 24);
    }

    private static void atRefuses() {
        PortolanHall h = four();
        Check.index("chart 1 of one", () -> h.at(1, 0, 0));
        Check.index("chart -1", () -> h.at(-1, 0, 0));
        Check.index("chart 12", () -> h.at(12, 0, 0));
        Check.index("point 24", () -> h.at(0, 24, 0));
        Check.index("point -1", () -> h.at(0, -1, 0));
        Check.index("point 24, what 6", () -> h.at(0, 24, 6));
        Check.argument("what 6", () -> h.at(0, 0, 6));
        Check.argument("what -1", () -> h.at(0, 0, -1));
        Check.argument("what 6 of an unknown point", () -> h.at(0, 23, 6));
        Check.argument("what least", () -> h.at(0, 0, LEAST));
    }

    private static void chains() {
        PortolanHall h = four();
        h.copy(0, 0, PortolanHall.PRICKED, 1500);
        h.copy(1, 0, PortolanHall.PRICKED, 1500);
        h.chart(3, 1500);
        h.paste(2, 3, 1, 1);
        chainIs(h, 0, 2, 0);
        chainIs(h, 1, 2, 1, 0);
        chainIs(h, 2, 2, 2, 1, 0);
        chainIs(h, 2, 1, 2, 3);
        chainIs(h, 2, 23);
        Check.same("place most", h.chain(2, 2, MOST), NONE);
        Check.same("place 11", h.chain(2, 2, 11), NONE);
        Check.same("place 12", h.chain(2, 2, 12), NONE);
    }

    private static void chainsChange() {
        PortolanHall h = four();
        h.copy(0, 0, PortolanHall.PRICKED, 1500);
        h.copy(1, 0, PortolanHall.PRICKED, 1500);
        h.copy(2, 0, PortolanHall.PRICKED, 1500);
        h.chart(3, 1500);
        h.lose(1, 2, 2);
        chainIs(h, 3, 2, 3, 2, 1);
        chainIs(h, 1, 2);
        chainIs(h, 3, 1, 3, 2, 1, 0);
        h.paste(1, 4, 2, 2);
        chainIs(h, 3, 2, 3, 2, 1, 4);
        chainIs(h, 1, 2, 1, 4);
        h.lose(3, 2, 2);
        chainIs(h, 3, 2);
        chainIs(h, 2, 2, 2, 1, 4);
    }

    private static void chainIs(PortolanHall h, int chart, int point, int... due) {
        for (int place = 0; place < due.length; place++) {
            Check.same("chain of " + point + " on " + chart, h.chain(chart, point, place), due[place]);
        }
        Check.same("end of the chain of " + point + " on " + chart, h.chain(chart, point, due.length), NONE);
        Check.same("behind its end", h.chain(chart, point, due.length + 1), NONE);
    }

    private static void chainsOfTwelve() {
        PortolanHall h = four();
        for (int i = 1; i < 12; i++) {
            h.copy(i - 1, 0, PortolanHall.PRICKED, 1500);
        }
        chainIs(h, 11, 0, 11, 10, 9, 8, 7, 6, 5, 4, 3, 2, 1, 0);
    }

    private static void chainRefuses() {
        PortolanHall h = four();
        Check.index("chart 1 of one", () -> h.chain(1, 0, 0));
        Check.index("chart -1", () -> h.chain(-1, 0, 0));
        Check.index("point 24", () -> h.chain(0, 24, 0));
        Check.index("point -1", () -> h.chain(0, -1, 0));
        Check.index("place -1", () -> h.chain(0, 0, -1));
        Check.index("place -1 of an unknown point", () -> h.chain(0, 23, -1));
        Check.index("place least", () -> h.chain(0, 0, LEAST));
    }

    private static void of() {
        PortolanHall h = four();
        h.island(0, 1, 1);
        h.island(0, 2, 2);
        h.paint(0, 0);
        h.shrink(0, 0, 51, true);
        h.shrink(0, 1, 52, true);
        h.shrink(0, 2, 53, true);
        h.exchange(0, 1, 23);
        h.exchange(0, 2, 23);
        int[] due = {1500, 4, 1, 51, 52, 53, 3};
        for (int what = 0; what < 7; what++) {
            Check.same("of " + what, h.of(0, what), due[what]);
        }
        h.exchange(0, 1, 1);
        h.lose(0, 0, 0);
        Check.same("known", h.of(0, 1), 3);
        h.copy(0, 0, PortolanHall.PRICKED, 1501);
        Check.same("year", h.of(1, 0), 1501);
        Check.same("false names", h.of(1, 6), 3);
        h.exchange(1, 0, 12);
        Check.same("false names, of the point 0 too", h.of(1, 6), 5);
        Check.index("chart 2 of two", () -> h.of(2, 0));
        Check.index("chart -1", () -> h.of(-1, 0));
        Check.index("chart 2, what 7", () -> h.of(2, 7));
        Check.argument("what 7", () -> h.of(0, 7));
        Check.argument("what -1", () -> h.of(0, -1));
        Check.argument("what most", () -> h.of(0, MOST));
    }

    private static void ofIsland() {
        PortolanHall h = four();
        h.copy(0, 0, PortolanHall.PRICKED, 1500);
        h.island(1, 7, -8);
        h.copy(1, 0, PortolanHall.EYE, 1500);
        h.copy(1, 0, PortolanHall.EYE, 1500);
        h.chart(1, 1500);
        islandIs(h, 0, 3, 7, -8, 1, 3);
        h.paint(3, 0);
        islandIs(h, 0, 2, 7, -8, 1, 2);
        h.paint(1, 0);
        islandIs(h, 0, 1, 7, -8, 1, 2);
        h.paint(2, 0);
        islandIs(h, 0, 0, 7, -8, 1, NONE);
        h.island(0, 1, 2);
        islandIs(h, 1, 1, 1, 2, 0, 0);
        for (int chart = 5; chart < 12; chart++) {
            h.copy(0, 0, PortolanHall.EYE, 1500);
        }
        islandIs(h, 1, 8, 1, 2, 0, 11);
        Check.index("island 2 of two", () -> h.ofIsland(2, 0));
        Check.index("island -1", () -> h.ofIsland(-1, 0));
        Check.index("island 2, what 5", () -> h.ofIsland(2, 5));
        Check.argument("what 5", () -> h.ofIsland(0, 5));
        Check.argument("what -1", () -> h.ofIsland(0, -1));
        Check.argument("what least", () -> h.ofIsland(0, LEAST));
    }

    private static void islandIs(PortolanHall h, int island, int... due) {
        for (int what = 0; what < 5; what++) {
            Check.same("of island " + island + ", " + what, h.ofIsland(island, what), due[what]);
        }
    }

    private static void fitIs(PortolanHall h, int chart, int basin, int... due) {
        for (int what = 0; what < 3; what++) {
            Check.same("fit of " + chart + " in " + basin + ", " + what, h.fit(chart, basin, what), due[what]);
        }
    }

    private static void fits() {
        PortolanHall h = four();
        h.hand(0, 3);
        h.copy(0, 0, PortolanHall.EYE, 1500);
        fitIs(h, 0, 0, 0, 0, 0);
        fitIs(h, 1, 0, 3, -3, 0);
        fitIs(h, 1, 1, 0, 0, 0);
        fitIs(h, 1, 2, 0, 0, 0);
        h.shrink(0, 0, 200, false);
        // errors: 0 and 0, 10 and 20, -30 and 40, 50 and -60; their mean is 7 and 0.
        fitIs(h, 0, 0, 7, 0, 7 + 3 + 37 + 43 + 0 + 20 + 40 + 60);
        h.lose(0, 0, 0);
        fitIs(h, 0, 0, 10, 0, 0 + 40 + 40 + 20 + 40 + 60);
        h.lose(0, 2, 7);
        fitIs(h, 0, 0, 10, 20, 0);
        h.lose(0, 1, 1);
        fitIs(h, 0, 0, 0, 0, 0);
    }

    /** Means below 0 are rounded towards 0; basins have their points 8 by 8. */
    private static void fitsRound() {
        PortolanHall h = new PortolanHall();
        h.coast(7, 100, 1, 8, 1000);
        h.coast(8, -100, 100, 9, 1000);
        h.coast(15, 51, -33, 16, 1000);
        h.coast(16, 10, 0, 17, 1000);
        h.pilot(0, -10);
        h.report(0, 0, 7);
        h.report(0, 0, 8);
        h.report(0, 0, 15);
        h.report(0, 0, 16);
        h.chart(4, 1500);
        // errors: of 0 none, of 7 -10 and 0, of 8 10 and -10, of 15 -5 and 3, of 16 -1 and 0.
        fitIs(h, 0, 0, -5, 0, 5 + 5);
        fitIs(h, 0, 1, 2, -3, 8 + 7 + 7 + 6);
        fitIs(h, 0, 2, -1, 0, 0);
        h.shrink(0, 1, 50, false);
        // errors: of 8 55 and -55, of 15 -28 and 18.
        fitIs(h, 0, 1, 13, -18, 42 + 41 + 37 + 36);
        fitIs(h, 0, 0, -5, 0, 5 + 5);
    }

    private static void fitRefuses() {
        PortolanHall h = four();
        Check.index("chart 1 of one", () -> h.fit(1, 0, 0));
        Check.index("chart -1", () -> h.fit(-1, 0, 0));
        Check.index("basin 3", () -> h.fit(0, 3, 0));
        Check.index("basin -1", () -> h.fit(0, -1, 0));
        Check.index("basin most", () -> h.fit(0, MOST, 0));
        Check.index("basin 3, what 3", () -> h.fit(0, 3, 3));
        Check.argument("what 3", () -> h.fit(0, 0, 3));
        Check.argument("what -1", () -> h.fit(0, 0, -1));
        Check.argument("what 3 without known points", () -> h.fit(0, 2, 3));
    }

    private static void sharedIs(PortolanHall h, int chart, int other, int... due) {
        for (int basin = 0; basin < 3; basin++) {
            Check.same("shared by " + chart + " and " + other + " in " + basin,
                h.shared(chart, other, basin), due[basin]);
            Check.same("shared by " + other + " and " + chart + " in " + basin,
                h.shared(other, chart, basin), due[basin]);
        }
    }

    private static void sharedErrors() {
        PortolanHall h = four();
        h.hand(0, 3);
        h.copy(0, 0, PortolanHall.PRICKED, 1500);
        sharedIs(h, 0, 1, 0, 0, 0);
        h.copy(0, 0, PortolanHall.EYE, 1500);
        h.copy(0, 0, PortolanHall.EYE, 1500);
        sharedIs(h, 0, 2, 0, 0, 0);
        sharedIs(h, 2, 3, 4, 0, 0);
        sharedIs(h, 2, 2, 4, 0, 0);
        h.lose(2, 1, 1);
        sharedIs(h, 2, 3, 3, 0, 0);
        h.lose(3, 1, 2);
        sharedIs(h, 2, 3, 2, 0, 0);
        h.shrink(2, 0, 110, false);
        sharedIs(h, 2, 3, 1, 0, 0);
        half();
    }

    /** Errors that are 0 in x or y alone count; errors that are alike in x or y alone don't. */
    private static void half() {
        PortolanHall h = new PortolanHall();
        h.coast(1, 10, 0, 2, 1000);
        h.coast(2, 0, 10, 3, 1000);
        h.pilot(0, 10);
        h.report(0, 0, 1);
        h.report(0, 0, 2);
        h.chart(2, 1500);
        h.copy(0, 0, PortolanHall.PRICKED, 1500);
        sharedIs(h, 0, 1, 2, 0, 0);
        Check.same("kin of the copy", h.kin(1, 0), 0);
        h.shrink(1, 0, 50, false);
        sharedIs(h, 0, 1, 0, 0, 0);
    }

    private static void sharedNames() {
        PortolanHall h = four();
        h.copy(0, 0, PortolanHall.PRICKED, 1500);
        h.exchange(0, 1, 20);
        sharedIs(h, 0, 1, 0, 0, 0);
        h.exchange(1, 1, 20);
        sharedIs(h, 0, 1, 1, 0, 1);
        h.lose(0, 1, 1);
        sharedIs(h, 0, 1, 1, 0, 1);
        h.exchange(1, 20, 8);
        sharedIs(h, 0, 1, 1, 0, 0);
        h.reads(0, 16, 3);
        h.copy(1, 0, PortolanHall.PRICKED, 1500);
        h.copy(0, 0, PortolanHall.PRICKED, 1500);
        sharedIs(h, 2, 3, 1, 1, 0);
        sharedIs(h, 3, 3, 1, 1, 1);
    }

    private static void sharedIslands() {
        PortolanHall h = four();
        h.island(0, 0, 0);
        h.copy(0, 0, PortolanHall.PRICKED, 1500);
        sharedIs(h, 0, 1, 1, 1, 1);
        h.island(0, 0, 0);
        h.island(1, 0, 0);
        sharedIs(h, 0, 1, 1, 1, 1);
        sharedIs(h, 0, 0, 2, 2, 2);
        h.hand(0, 1);
        h.copy(1, 0, PortolanHall.EYE, 1500);
        h.copy(1, 0, PortolanHall.EYE, 1500);
        h.exchange(2, 1, 2);
        h.exchange(3, 1, 2);
        sharedIs(h, 2, 3, 4 + 2 + 2, 2, 2);
        h.paint(2, 0);
        sharedIs(h, 2, 3, 4 + 2 + 1, 1, 1);
        sharedIs(h, 0, 2, 0, 0, 0);
    }

    private static void sharedRefuses() {
        PortolanHall h = four();
        Check.index("chart 1 of one", () -> h.shared(1, 0, 0));
        Check.index("chart -1", () -> h.shared(-1, 0, 0));
        Check.index("other 1 of one", () -> h.shared(0, 1, 0));
        Check.index("other -1", () -> h.shared(0, -1, 0));
        Check.index("basin 3", () -> h.shared(0, 0, 3));
        Check.index("basin -1", () -> h.shared(0, 0, -1));
        Check.same("with itself", h.shared(0, 0, 0), 0);
    }

    private static void kins() {
        PortolanHall h = four();
        h.hand(0, 3);
        h.hand(1, -2);
        h.copy(0, 0, PortolanHall.EYE, 1500);
        h.copy(0, 1, PortolanHall.EYE, 1500);
        h.copy(0, 0, PortolanHall.EYE, 1500);
        h.copy(0, 0, PortolanHall.EYE, 1500);
        h.copy(0, 1, PortolanHall.EYE, 1500);
        int[] due = {NONE, NONE, NONE, 1, 1, 2};
        for (int chart = 0; chart < 6; chart++) {
            Check.same("kin of " + chart, h.kin(chart, 0), due[chart]);
            Check.same("kin of " + chart + " elsewhere", h.kin(chart, 1), NONE);
        }
        h.lose(1, 1, 1);
        Check.same("the one that shares the most", h.kin(4, 0), 3);
        h.lose(3, 1, 1);
        Check.same("the lowest of several", h.kin(4, 0), 1);
        h.exchange(2, 8, 9);
        h.exchange(4, 8, 9);
        Check.same("by names", h.kin(4, 1), 2);
        Check.same("by places", h.kin(4, 0), 1);
        h.island(4, 0, 0);
        h.copy(4, 0, PortolanHall.PRICKED, 1500);
        Check.same("by an island", h.kin(6, 2), 4);
        Check.same("higher ones do not count", h.kin(4, 2), NONE);
    }

    private static void kinRefuses() {
        PortolanHall h = four();
        Check.index("chart 1 of one", () -> h.kin(1, 0));
        Check.index("chart -1", () -> h.kin(-1, 0));
        Check.index("basin 3", () -> h.kin(0, 3));
        Check.index("basin -1", () -> h.kin(0, -1));
        Check.index("basin least", () -> h.kin(0, LEAST));
    }

    private static void dates() {
        PortolanHall h = four();
        Check.same("of an unknown one", h.date(0, 0), 1400);
        h.exchange(0, 4, 23);
        Check.same("of a known one", h.date(0, 0), 1300);
        h.lose(0, 3, 3);
        Check.same("known or not", h.date(0, 0), 1300);
        Check.same("other basins", h.date(0, 1), 1000);
        Check.same("other basins", h.date(0, 2), 1000);
        h.exchange(0, 3, 22);
        Check.same("misread", h.date(0, 0), 1200);
        PortolanHall old = new PortolanHall();
        for (int point = 16; point < 24; point++) {
            old.coast(point, 0, 0, 50, 0);
        }
        old.pilot(0, 0);
        old.report(0, 0, 1);
        old.chart(1, 0);
        Check.same("year 0", old.date(0, 2), 0);
        old.reads(3, 50, 51);
        old.copy(0, 3, PortolanHall.PRICKED, 0);
        Check.same("without true names", old.date(1, 2), NONE);
        Check.same("with true names elsewhere", old.date(1, 1), 1000);
        Check.same("not by the year of the chart", old.date(0, 0), 1000);
    }

    private static void dateRefuses() {
        PortolanHall h = four();
        Check.index("chart 1 of one", () -> h.date(1, 0));
        Check.index("chart -1", () -> h.date(-1, 0));
        Check.index("basin 3", () -> h.date(0, 3));
        Check.index("basin -1", () -> h.date(0, -1));
    }
}
