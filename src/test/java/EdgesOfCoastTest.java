/** The sentences of the promises 1 to 4: a new object, coast, pilot, report. */
public final class EdgesOfCoastTest {
    private static final String NEW = "Promise 1: A new object";
    private static final String COAST = "Promise 2: coast";
    private static final String PILOT = "Promise 3: pilot";
    private static final String REPORT = "Promise 4: report";

    public static void main(String[] args) {
        Sentences.run(EdgesOfCoastTest.class);
    }

    @Sentence(in = NEW, says = "Makes a coast without pilots and charts.")
    static void thereIsNoPilotAtFirst() {
        PortolanHall h = new PortolanHall();
        Check.index("a report of the pilot 0", () -> h.report(0, 0, 1));
        Check.index("a report that is told", () -> h.told(0, true));
        Check.argument("a chart of a report", () -> h.chart(1, 1000));
        Check.same("the first pilot", h.pilot(0, 0), 0);
        Check.same("the first report", h.report(0, 0, 1), 0);
    }

    @Sentence(in = NEW, says = "Makes a coast without pilots and charts.")
    static void thereIsNoChartAtFirst() {
        PortolanHall h = new PortolanHall();
        Check.index("copy", () -> h.copy(0, 0, 0, 1000));
        Check.index("paste", () -> h.paste(0, 0, 0, 0));
        Check.index("island", () -> h.island(0, 0, 0));
        Check.index("exchange", () -> h.exchange(0, 0, 0));
        Check.index("shrink", () -> h.shrink(0, 0, 100, true));
        Check.index("lose", () -> h.lose(0, 0, 0));
        Check.index("paint", () -> h.paint(0, 0));
        Check.index("at", () -> h.at(0, 0, 0));
        Check.index("chain", () -> h.chain(0, 0, 0));
        Check.index("of", () -> h.of(0, 0));
        Check.index("ofIsland", () -> h.ofIsland(0, 0));
        Check.index("fit", () -> h.fit(0, 0, 0));
        Check.index("shared", () -> h.shared(0, 0, 0));
        Check.index("kin", () -> h.kin(0, 0));
        Check.index("date", () -> h.date(0, 0));
    }

    @Sentence(in = NEW, says = "Makes a coast without pilots and charts.")
    static void twoObjectsHaveNothingInCommon() {
        PortolanHall one = Halls.charts(1000, 1000);
        one.hand(0, 9);
        one.island(0, 0, 0);
        PortolanHall two = new PortolanHall();
        Check.same("hand", two.hand(0, 0), 0);
        Check.same("pilot", two.pilot(0, 0), 0);
        Check.same("report", two.report(0, 0, 23), 0);
        Check.same("chart", two.chart(1, 1000), 0);
        Halls.placeIs(two, 0, 23, 0, 0);
        Check.same("island", two.island(0, 0, 0), 0);
        Halls.placeIs(one, 0, 23, 230, -69);
    }

    @Sentence(in = COAST, says = "Tells a point of the coast, as long as there are no reports.")
    static void theCoastIsToldUntilTheFirstReport() {
        PortolanHall h = new PortolanHall();
        h.coast(1, 1, 1, 1, 1);
        h.pilot(0, 0);
        Check.argument("a report that is refused", () -> h.report(0, 1, 1));
        Check.taken("behind a pilot and a refused report", () -> h.coast(1, 7, 8, 50, 2000));
        h.report(0, 0, 1);
        Check.state("behind a report", () -> h.coast(1, 9, 9, 9, 9));
        Check.state("behind a report, another point", () -> h.coast(2, 0, 0, 3, 1000));
        Halls.toldIs(h, 0, 7, 8);
        h.chart(1, 1000);
        Check.same("name", h.at(0, 1, 2), 50);
        Check.same("year", h.date(0, 0), 2000);
        Check.state("behind a chart", () -> h.coast(1, 9, 9, 9, 9));
    }

    @Sentence(in = COAST, says = "`point`: 0 to 23")
    static void coastPoint() {
        PortolanHall h = new PortolanHall();
        Edge.indexes("point", 0, 23, point -> h.coast(point, 100, 0, 70 + point, 1000));
        h.pilot(0, 0);
        h.report(0, 1, 0);
        h.report(0, 1, 23);
        h.report(0, 1, 22);
        Halls.toldIs(h, 0, 100, 0);
        Halls.toldIs(h, 1, 100, 0);
        Halls.toldIs(h, 2, 0, 0);
        h.chart(1, 1000);
        Check.same("name of 0", h.at(0, 0, 2), 70);
        Check.same("name of 1", h.at(0, 1, 2), 2);
        Check.same("name of 22", h.at(0, 22, 2), 23);
        Check.same("name of 23", h.at(0, 23, 2), 93);
    }

    @Sentence(in = COAST, says = "`x`: -500 to 500")
    static void coastX() {
        for (int x : new int[] {-500, -499, 0, 499, 500}) {
            PortolanHall h = new PortolanHall();
            Edge.arguments("x", -500, 500, any -> h.coast(1, any, 0, 2, 1000));
            h.coast(1, x, 0, 2, 1000);
            h.pilot(0, 0);
            h.report(0, 0, 1);
            Halls.toldIs(h, 0, x, 0);
        }
    }

    @Sentence(in = COAST, says = "`y`: -500 to 500")
    static void coastY() {
        for (int y : new int[] {-500, -499, 0, 499, 500}) {
            PortolanHall h = new PortolanHall();
            Edge.arguments("y", -500, 500, any -> h.coast(1, 0, any, 2, 1000));
            h.coast(1, 0, y, 2, 1000);
            h.pilot(0, 0);
            h.report(0, 0, 1);
            Halls.toldIs(h, 0, 0, y);
        }
    }

    @Sentence(in = COAST, says = "`name`: 1 to 99")
    static void coastName() {
        for (int name : new int[] {1, 2, 98, 99}) {
            PortolanHall h = new PortolanHall();
            Edge.arguments("name", 1, 99, any -> h.coast(1, 0, 0, any, 1000));
            h.coast(1, 0, 0, name, 1000);
            h.pilot(0, 0);
            h.report(0, 0, 1);
            h.chart(1, 1000);
            Check.same("name", h.at(0, 1, 2), name);
        }
    }

    @Sentence(in = COAST, says = "`year`: 0 to 2000")
    static void coastYear() {
        for (int year : new int[] {0, 1, 1999, 2000}) {
            PortolanHall h = new PortolanHall();
            Edge.arguments("year", 0, 2000, any -> h.coast(16, 0, 0, 17, any));
            for (int point = 16; point < 24; point++) {
                h.coast(point, 0, 0, point + 1, year);
            }
            h.pilot(0, 0);
            h.report(0, 0, 1);
            h.chart(1, 1000);
            Check.same("year", h.date(0, 2), year);
        }
    }

    @Sentence(in = COAST, says = "Throws `IndexOutOfBoundsException` if there is no such point")
    static void coastWithoutSuchAPoint() {
        PortolanHall h = Halls.reports(0);
        Check.index("-1", () -> h.coast(-1, 0, 0, 1, 1000));
        Check.index("24", () -> h.coast(24, 0, 0, 1, 1000));
        Check.index("24, with all others wrong", () -> h.coast(24, 501, 501, 100, 2001));
        h.report(0, 0, 1);
        Check.index("24, and there is a report", () -> h.coast(24, 0, 0, 1, 1000));
    }

    @Sentence(in = COAST, says = "Throws `IllegalArgumentException` if x, y, name or year is out of range")
    static void coastOutOfRange() {
        PortolanHall h = Halls.reports(0);
        for (int reports = 0; reports < 2; reports++) {
            Check.argument("x 501", () -> h.coast(0, 501, 0, 1, 1000));
            Check.argument("x -501", () -> h.coast(0, -501, 0, 1, 1000));
            Check.argument("y 501", () -> h.coast(0, 0, 501, 1, 1000));
            Check.argument("y -501", () -> h.coast(0, 0, -501, 1, 1000));
            Check.argument("name 0", () -> h.coast(0, 0, 0, 0, 1000));
            Check.argument("name 100", () -> h.coast(0, 0, 0, 100, 1000));
            Check.argument("year -1", () -> h.coast(0, 0, 0, 1, -1));
            Check.argument("year 2001", () -> h.coast(0, 0, 0, 1, 2001));
            h.report(0, 0, 1);
        }
    }

    @Sentence(in = COAST, says = "Throws `IllegalStateException` if there are reports")
    static void coastBehindReports() {
        PortolanHall h = Halls.reports(0);
        Check.taken("behind none", () -> h.coast(23, -500, 500, 99, 0));
        h.report(0, 0, 1);
        Check.state("behind one, the edges", () -> h.coast(23, -500, 500, 99, 0));
        Check.state("behind one, as it is", () -> h.coast(0, 0, 0, 1, 1000));
        for (int report = 1; report < 60; report++) {
            h.report(0, 0, 1);
        }
        Check.state("behind all", () -> h.coast(0, 0, 0, 1, 1000));
    }

    @Sentence(in = PILOT, says = "`turn`: -30 to 30")
    static void pilotTurn() {
        for (int turn : new int[] {-30, -29, 0, 29, 30}) {
            PortolanHall h = new PortolanHall();
            h.coast(1, 100, 0, 2, 1000);
            h.coast(2, 0, 100, 3, 1000);
            Edge.arguments("turn", -30, 30, any -> h.pilot(any, 0));
            int pilot = h.pilot(turn, 0);
            h.report(pilot, 0, 1);
            h.report(pilot, 0, 2);
            Halls.toldIs(h, 0, 100, turn);
            Halls.toldIs(h, 1, -turn, 100);
        }
    }

    @Sentence(in = PILOT, says = "`error`: -30 to 30")
    static void pilotError() {
        for (int error : new int[] {-30, -29, 0, 29, 30}) {
            PortolanHall h = new PortolanHall();
            h.coast(1, 100, -100, 2, 1000);
            Edge.arguments("error", -30, 30, any -> h.pilot(0, any));
            int pilot = h.pilot(0, error);
            h.report(pilot, 0, 1);
            Halls.toldIs(h, 0, 100 + error, -100 - error);
        }
    }

    @Sentence(in = PILOT, says = "Returns the number.")
    static void pilotReturnsTheNumber() {
        PortolanHall h = new PortolanHall();
        h.coast(1, 100, 0, 2, 1000);
        for (int pilot = 0; pilot < 6; pilot++) {
            Check.same("pilot", h.pilot(0, pilot), pilot);
        }
        for (int pilot = 0; pilot < 6; pilot++) {
            h.report(pilot, 0, 1);
            Halls.toldIs(h, pilot, 100 + pilot, 0);
        }
    }

    @Sentence(in = PILOT, says = "Returns the number.")
    static void aRefusedPilotTakesNoNumber() {
        PortolanHall h = new PortolanHall();
        Check.argument("turn", () -> h.pilot(31, 0));
        Check.same("the first", h.pilot(0, 0), 0);
        Check.argument("error", () -> h.pilot(0, 31));
        Check.same("the second", h.pilot(0, 0), 1);
    }

    @Sentence(in = PILOT, says = "Throws `IllegalArgumentException` if turn or error is out of range")
    static void pilotOutOfRange() {
        PortolanHall h = new PortolanHall();
        Check.argument("turn 31", () -> h.pilot(31, 30));
        Check.argument("turn -31", () -> h.pilot(-31, 30));
        Check.argument("error 31", () -> h.pilot(30, 31));
        Check.argument("error -31", () -> h.pilot(30, -31));
        Check.argument("both", () -> h.pilot(Integer.MIN_VALUE, Integer.MAX_VALUE));
        for (int pilot = 0; pilot < 6; pilot++) {
            h.pilot(0, 0);
        }
        Check.argument("turn, and there are 6", () -> h.pilot(31, 0));
        Check.argument("error, and there are 6", () -> h.pilot(0, -31));
    }

    @Sentence(in = PILOT, says = "Throws `IllegalStateException` if there are 6")
    static void pilotBehindSix() {
        PortolanHall h = new PortolanHall();
        for (int pilot = 0; pilot < 5; pilot++) {
            h.pilot(0, 0);
        }
        Check.taken("the sixth", () -> h.pilot(30, -30));
        Check.state("the seventh", () -> h.pilot(30, -30));
        Check.state("once more", () -> h.pilot(0, 0));
    }

    @Sentence(in = REPORT, says = "`pilot`: the number")
    static void reportPilot() {
        PortolanHall h = new PortolanHall();
        for (int pilots = 1; pilots <= 6; pilots++) {
            h.pilot(0, 0);
            Edge.indexes("pilot of " + pilots, 0, pilots - 1, pilot -> h.report(pilot, 0, 1));
        }
    }

    @Sentence(in = REPORT, says = "`from`: 0 to 23")
    static void reportFrom() {
        PortolanHall h = new PortolanHall();
        h.coast(0, 100, 0, 1, 1000);
        h.coast(23, 0, 100, 24, 1000);
        h.pilot(0, 0);
        Edge.indexes("from", 0, 23, from -> h.report(0, from, 12));
        Halls.toldIs(h, 0, -100, 0);
        Halls.toldIs(h, 1, 0, -100);
    }

    @Sentence(in = REPORT, says = "`to`: another point")
    static void reportTo() {
        PortolanHall h = new PortolanHall();
        h.coast(0, 100, 0, 1, 1000);
        h.coast(23, 0, 100, 24, 1000);
        h.pilot(0, 0);
        Edge.indexes("to", 0, 23, to -> h.report(0, 12, to));
        Halls.toldIs(h, 0, 100, 0);
        Halls.toldIs(h, 1, 0, 100);
        Check.argument("the same", () -> h.report(0, 12, 12));
        Check.taken("the one ahead", () -> h.report(0, 12, 11));
        Check.taken("the one behind", () -> h.report(0, 12, 13));
    }

    @Sentence(in = REPORT, says = "Returns the number of the report.")
    static void reportReturnsTheNumber() {
        PortolanHall h = new PortolanHall();
        h.coast(1, 100, 0, 2, 1000);
        h.pilot(0, 0);
        h.pilot(0, 10);
        for (int report = 0; report < 60; report++) {
            Check.argument("a refused one takes no number", () -> h.report(0, 1, 1));
            Check.same("report", h.report(report % 2, 0, 1), report);
        }
        for (int report = 0; report < 60; report++) {
            Halls.toldIs(h, report, report % 2 == 0 ? 100 : 110, 0);
        }
    }

    @Sentence(in = REPORT, says = "Throws `IndexOutOfBoundsException` if there is no such pilot or point")
    static void reportWithoutSuchAPilotOrPoint() {
        PortolanHall h = Halls.reports(0);
        Check.index("pilot -1", () -> h.report(-1, 0, 1));
        Check.index("pilot 1 of one", () -> h.report(1, 0, 1));
        Check.index("from -1", () -> h.report(0, -1, 1));
        Check.index("from 24", () -> h.report(0, 24, 1));
        Check.index("to -1", () -> h.report(0, 1, -1));
        Check.index("to 24", () -> h.report(0, 1, 24));
        Check.index("no pilot, both points the same", () -> h.report(1, 1, 1));
        Check.index("both 24", () -> h.report(0, 24, 24));
    }

    @Sentence(in = REPORT, says = "Throws `IllegalArgumentException` if both points are the same")
    static void reportOfOnePoint() {
        PortolanHall h = Halls.reports(0);
        for (int point = 0; point < 24; point++) {
            int one = point;
            Check.argument("point " + one, () -> h.report(0, one, one));
        }
        Check.same("the first report", h.report(0, 23, 22), 0);
        for (int report = 1; report < 60; report++) {
            h.report(0, 0, 1);
        }
        Check.argument("and there are 60", () -> h.report(0, 23, 23));
    }

    @Sentence(in = REPORT, says = "Throws `IllegalStateException` if there are 60")
    static void reportBehindSixty() {
        PortolanHall h = Halls.reports(59);
        Check.taken("the 60th", () -> h.report(0, 0, 23));
        Check.state("the 61st", () -> h.report(0, 0, 23));
        Check.state("once more", () -> h.report(0, 1, 0));
    }
}
