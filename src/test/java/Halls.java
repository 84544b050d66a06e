/** Halls that the tests of single sentences begin with, and what they all ask. */
final class Halls {
    static final int NONE = PortolanHall.NONE;
    static final int NOWHERE = PortolanHall.NOWHERE;
    static final int PRICKED = PortolanHall.PRICKED;
    static final int GRID = PortolanHall.GRID;
    static final int EYE = PortolanHall.EYE;

    private Halls() {
    }

    /** One pilot without a turn or an error, and so many reports of him, each from 0 to 1 where no other is told. */
    static PortolanHall reports(int count) {
        PortolanHall h = new PortolanHall();
        h.pilot(0, 0);
        for (int i = 0; i < count; i++) {
            h.report(0, 0, 1);
        }
        return h;
    }

    /** A coast with the point p at 10p and -3p; a true pilot, who reports from 0 to each other point. */
    static PortolanHall line() {
        PortolanHall h = new PortolanHall();
        for (int point = 0; point < 24; point++) {
            h.coast(point, 10 * point, -3 * point, point + 1, 1000);
        }
        h.pilot(0, 0);
        for (int point = 1; point < 24; point++) {
            h.report(0, 0, point);
        }
        return h;
    }

    /** The line with a chart of each of the years, all points known and true. */
    static PortolanHall charts(int... years) {
        PortolanHall h = line();
        for (int year : years) {
            h.chart(23, year);
        }
        return h;
    }

    /** The line with twelve charts of the year 1000, each a copy of the one ahead of it. */
    static PortolanHall twelveCopies() {
        PortolanHall h = charts(1000);
        for (int chart = 0; chart < 11; chart++) {
            h.copy(chart, 0, PRICKED, 1000);
        }
        return h;
    }

    /** The point 1 alone beside 0, at the place told, and a chart of it. */
    static PortolanHall onePoint(int x, int y) {
        PortolanHall h = new PortolanHall();
        h.coast(1, x, y, 2, 1000);
        h.pilot(0, 0);
        h.report(0, 0, 1);
        h.chart(1, 1000);
        return h;
    }

    /** A basin shrinks, or grows, once for each of the hundredths. */
    static void shrink(PortolanHall h, int chart, int basin, int... hundredths) {
        for (int one : hundredths) {
            h.shrink(chart, basin, one, false);
        }
    }

    static void placeIs(PortolanHall h, int chart, int point, int x, int y) {
        Check.same("x of " + point + " on " + chart, h.at(chart, point, 0), x);
        Check.same("y of " + point + " on " + chart, h.at(chart, point, 1), y);
    }

    static void isUnknown(PortolanHall h, int chart, int point) {
        placeIs(h, chart, point, NOWHERE, NOWHERE);
    }

    static void toldIs(PortolanHall h, int report, int x, int y) {
        Check.same("x of the report " + report, h.told(report, true), x);
        Check.same("y of the report " + report, h.told(report, false), y);
    }

    static void chainIs(PortolanHall h, int chart, int point, int... due) {
        for (int place = 0; place < due.length; place++) {
            Check.same("chain of " + point + " on " + chart + ", " + place, h.chain(chart, point, place), due[place]);
        }
        Check.same("end of the chain of " + point + " on " + chart, h.chain(chart, point, due.length), NONE);
    }

    static void fitIs(PortolanHall h, int chart, int basin, int x, int y, int residual) {
        Check.same("shift in x of " + basin + " on " + chart, h.fit(chart, basin, 0), x);
        Check.same("shift in y of " + basin + " on " + chart, h.fit(chart, basin, 1), y);
        Check.same("residual of " + basin + " on " + chart, h.fit(chart, basin, 2), residual);
    }

    static void sharedIs(PortolanHall h, int chart, int other, int... due) {
        for (int basin = 0; basin < 3; basin++) {
            Check.same("shared by " + chart + " and " + other + " in " + basin,
                h.shared(chart, other, basin), due[basin]);
        }
    }
}
