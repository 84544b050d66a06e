/** Promises 1 to 4 and 15: a new object, coast, pilot, report, told. */
public final class CoastTest {
    private static final int MOST = Integer.MAX_VALUE;
    private static final int LEAST = Integer.MIN_VALUE;

    public static void main(String[] args) {
        newObject();
        firstCoast();
        coastIsTold();
        coastRefuses();
        pilots();
        reports();
        reportsRound();
        reportsRefuse();
        tolds();
        Check.end("CoastTest");
    }

    private static void newObject() {
        PortolanHall h = new PortolanHall();
        Check.index("at of no chart", () -> h.at(0, 0, 0));
        Check.index("told of no report", () -> h.told(0, true));
        Check.index("ofIsland of no island", () -> h.ofIsland(0, 0));
        Check.index("report without a pilot", () -> h.report(0, 0, 1));
        Check.argument("chart without a report", () -> h.chart(1, 1500));
        Check.argument("chart of no report", () -> h.chart(0, 1500));
        for (int copyist = 0; copyist < 4; copyist++) {
            Check.same("hand at first", h.hand(copyist, 0), 0);
        }
        Check.same("the first pilot", h.pilot(0, 0), 0);
        PortolanHall other = new PortolanHall();
        Check.same("the first pilot of another object", other.pilot(1, 1), 0);
    }

    private static void firstCoast() {
        PortolanHall h = new PortolanHall();
        h.pilot(0, 0);
        for (int point = 1; point < 24; point++) {
            h.report(0, 0, point);
        }
        h.chart(23, 0);
        for (int point = 0; point < 24; point++) {
            Check.same("x of " + point + " at first", h.at(0, point, 0), 0);
            Check.same("y of " + point + " at first", h.at(0, point, 1), 0);
            Check.same("name of " + point + " at first", h.at(0, point, 2), point + 1);
        }
        for (int basin = 0; basin < 3; basin++) {
            Check.same("year of harbours at first", h.date(0, basin), 1000);
        }
    }

    private static void coastIsTold() {
        PortolanHall h = new PortolanHall();
        h.coast(0, -500, 500, 99, 0);
        h.coast(23, 500, -500, 1, 2000);
        h.coast(23, 499, -499, 1, 1999);
        h.pilot(0, 0);
        h.report(0, 0, 23);
        h.chart(1, 0);
        Check.same("x of 0", h.at(0, 0, 0), -500);
        Check.same("y of 0", h.at(0, 0, 1), 500);
        Check.same("name of 0", h.at(0, 0, 2), 99);
        Check.same("x of 23", h.at(0, 23, 0), 499);
        Check.same("y of 23", h.at(0, 23, 1), -499);
        Check.same("name of 23", h.at(0, 23, 2), 1);
        Check.same("the youngest harbour ahead", h.date(0, 2), 1999);
        Check.same("the youngest harbour, others", h.date(0, 0), 1000);
    }

    private static void coastRefuses() {
        PortolanHall h = new PortolanHall();
        Check.index("point -1", () -> h.coast(-1, 0, 0, 1, 0));
        Check.index("point 24", () -> h.coast(24, 0, 0, 1, 0));
        Check.index("point least", () -> h.coast(LEAST, 0, 0, 1, 0));
        Check.index("point most", () -> h.coast(MOST, 0, 0, 1, 0));
        Check.argument("x 501", () -> h.coast(0, 501, 0, 1, 0));
        Check.argument("x -501", () -> h.coast(0, -501, 0, 1, 0));
        Check.argument("x least", () -> h.coast(0, LEAST, 0, 1, 0));
        Check.argument("y 501", () -> h.coast(0, 0, 501, 1, 0));
        Check.argument("y -501", () -> h.coast(0, 0, -501, 1, 0));
        Check.argument("name 0", () -> h.coast(0, 0, 0, 0, 0));
        Check.argument("name 100", () -> h.coast(0, 0, 0, 100, 0));
        Check.argument("year -1", () -> h.coast(0, 0, 0, 1, -1));
        Check.argument("year 2001", () -> h.coast(0, 0, 0, 1, 2001));
        Check.index("point and x", () -> h.coast(24, 501, 0, 1, 0));
        h.pilot(0, 0);
        h.coast(5, 3, 4, 6, 1000);
        h.report(0, 0, 5);
        Check.state("a report stands", () -> h.coast(0, 1, 1, 1, 0));
        Check.argument("year, and a report stands", () -> h.coast(0, 0, 0, 1, 2001));
        Check.index("point, and a report stands", () -> h.coast(24, 0, 0, 1, 2000));
    }

    private static void pilots() {
        PortolanHall h = new PortolanHall();
        Check.argument("turn 31", () -> h.pilot(31, 0));
        Check.argument("turn -31", () -> h.pilot(-31, 0));
        Check.argument("error 31", () -> h.pilot(0, 31));
        Check.argument("error -31", () -> h.pilot(0, -31));
        Check.argument("turn least", () -> h.pilot(LEAST, 0));
        Check.argument("error most", () -> h.pilot(0, MOST));
        Check.same("pilot", h.pilot(30, 30), 0);
        Check.same("pilot", h.pilot(-30, -30), 1);
        for (int i = 2; i < 6; i++) {
            Check.same("pilot", h.pilot(i, -i), i);
        }
        Check.state("a seventh pilot", () -> h.pilot(0, 0));
        Check.argument("a seventh pilot, turn 31", () -> h.pilot(31, 0));
        Check.same("report of the last pilot", h.report(5, 0, 1), 0);
    }

    private static void reports() {
        PortolanHall h = new PortolanHall();
        h.coast(1, 100, 200, 2, 1000);
        h.coast(2, -50, 30, 3, 1000);
        h.pilot(0, 0);
        h.pilot(10, 0);
        h.pilot(0, 10);
        h.pilot(-20, -30);
        Check.same("first", h.report(0, 0, 1), 0);
        told(h, 0, 100, 200);
        h.report(0, 1, 2);
        told(h, 1, -150, -170);
        h.report(1, 0, 1);
        told(h, 2, 100 - 20, 200 + 10);
        h.report(2, 0, 1);
        told(h, 3, 110, 220);
        Check.same("fifth", h.report(3, 0, 1), 4);
        told(h, 4, 140 - 42, 180 - 54);
        told(h, 0, 100, 200);
    }

    /** Each division is rounded towards 0 by itself, below 0 too. */
    private static void reportsRound() {
        PortolanHall h = new PortolanHall();
        h.coast(1, 393, 407, 2, 1000);
        h.coast(2, 7, 9, 3, 1000);
        h.coast(3, -7, -9, 4, 1000);
        h.pilot(30, 30);
        h.pilot(11, 7);
        h.report(0, 0, 1);
        told(h, 0, 393 - 122 + 81, 407 + 117 + 157);
        h.report(1, 0, 2);
        told(h, 1, 7, 9);
        h.report(0, 0, 3);
        told(h, 2, -7 + 2 - 1, -9 - 2 - 3);
        h.report(0, 1, 0);
        told(h, 3, -(393 - 122 + 81), -(407 + 117 + 157));
    }

    private static void told(PortolanHall h, int report, int x, int y) {
        Check.same("report " + report + " in x", h.told(report, true), x);
        Check.same("report " + report + " in y", h.told(report, false), y);
    }

    private static void reportsRefuse() {
        PortolanHall h = new PortolanHall();
        Check.index("pilot 0 of none", () -> h.report(0, 0, 0));
        h.pilot(0, 0);
        Check.index("pilot -1", () -> h.report(-1, 0, 1));
        Check.index("pilot 1 of one", () -> h.report(1, 0, 1));
        Check.index("from -1", () -> h.report(0, -1, 1));
        Check.index("from 24", () -> h.report(0, 24, 1));
        Check.index("to -1", () -> h.report(0, 1, -1));
        Check.index("to 24", () -> h.report(0, 1, 24));
        Check.index("both 24", () -> h.report(0, 24, 24));
        Check.index("no pilot, and both the same", () -> h.report(MOST, 2, 2));
        Check.argument("both 0", () -> h.report(0, 0, 0));
        Check.argument("both 23", () -> h.report(0, 23, 23));
        for (int i = 0; i < 60; i++) {
            Check.same("report", h.report(0, i % 2 * 23, 22), i);
        }
        Check.state("a 61st report", () -> h.report(0, 0, 1));
        Check.argument("a 61st report, both the same", () -> h.report(0, 1, 1));
        Check.index("a 61st report, no point", () -> h.report(0, 0, 24));
    }

    private static void tolds() {
        PortolanHall h = new PortolanHall();
        h.pilot(0, 0);
        h.report(0, 0, 1);
        Check.index("report -1", () -> h.told(-1, true));
        Check.index("report 1 of one", () -> h.told(1, false));
        Check.index("report 60", () -> h.told(60, false));
        Check.index("report least", () -> h.told(LEAST, false));
        Check.index("report most", () -> h.told(MOST, true));
    }
}
