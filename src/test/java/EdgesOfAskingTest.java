/** The sentences of the promises 15 to 23: told, at, chain, of, ofIsland, fit, shared, kin, date. */
public final class EdgesOfAskingTest {
    private static final String TOLD = "Promise 15: told";
    private static final String AT = "Promise 16: at";
    private static final String CHAIN = "Promise 17: chain";
    private static final String OF = "Promise 18: of";
    private static final String OF_ISLAND = "Promise 19: ofIsland";
    private static final String FIT = "Promise 20: fit";
    private static final String SHARED = "Promise 21: shared";
    private static final String KIN = "Promise 22: kin";
    private static final String DATE = "Promise 23: date";
    private static final String ITS_NUMBER = "`chart`: its number";
    private static final String POINT = "`point`: 0 to 23";
    private static final String BASIN = "`basin`: 0 to 2";
    private static final String NO_CHART = "Throws `IndexOutOfBoundsException` if there is no such chart";
    private static final String NO_CHART_OR_POINT = "Throws `IndexOutOfBoundsException` if there is no such chart or "
        + "point";
    private static final String NO_CHART_OR_BASIN = "Throws `IndexOutOfBoundsException` if there is no such chart or "
        + "basin";
    private static final String WRONG_WHAT = "Throws `IllegalArgumentException` if what is out of range";

    private interface Asked {
        void of(PortolanHall h, int chart);
    }

    public static void main(String[] args) {
        Sentences.run(EdgesOfAskingTest.class);
    }

    /** The first and the last chart can be asked, one further can't, of one, of two and of all twelve. */
    private static void charts(Asked question) {
        PortolanHall none = Halls.line();
        Check.index("of none", () -> question.of(none, 0));
        PortolanHall one = Halls.charts(1000);
        Edge.indexes("of one", 0, 0, chart -> question.of(one, chart));
        PortolanHall two = Halls.charts(1000, 1000);
        Edge.indexes("of two", 0, 1, chart -> question.of(two, chart));
        PortolanHall twelve = Halls.twelveCopies();
        Edge.indexes("of twelve", 0, 11, chart -> question.of(twelve, chart));
    }

    @Sentence(in = TOLD, says = "`report`: its number")
    static void toldReport() {
        for (int reports : new int[] {1, 2, 60}) {
            PortolanHall h = Halls.reports(reports);
            Edge.indexes("report of " + reports, 0, reports - 1, report -> h.told(report, true));
        }
    }

    @Sentence(in = TOLD, says = "`inX`: whether x is told, otherwise y")
    static void toldInX() {
        PortolanHall h = new PortolanHall();
        h.coast(1, 500, -499, 2, 1000);
        h.pilot(0, 0);
        h.report(0, 0, 1);
        Check.same("x", h.told(0, true), 500);
        Check.same("y", h.told(0, false), -499);
    }

    @Sentence(in = TOLD, says = "Returns the number.")
    static void toldReturnsTheNumber() {
        PortolanHall h = new PortolanHall();
        h.coast(0, 500, -500, 1, 1000);
        h.coast(1, -500, 500, 2, 1000);
        h.pilot(30, 30);
        h.pilot(-30, -30);
        h.pilot(0, 0);
        h.report(0, 0, 1);
        h.report(1, 0, 1);
        h.report(2, 1, 0);
        h.report(2, 2, 3);
        // The way is -1000 and 1000; the turn takes 300 from both, or adds it, then come 30 hundredths more, or less.
        Halls.toldIs(h, 0, -1300 - 390, 700 + 210);
        Halls.toldIs(h, 1, -700 + 210, 1300 - 390);
        Halls.toldIs(h, 2, 1000, -1000);
        Halls.toldIs(h, 3, 0, 0);
    }

    @Sentence(in = TOLD, says = "Throws `IndexOutOfBoundsException` if there is no such report")
    static void toldWithoutSuchAReport() {
        PortolanHall h = Halls.reports(0);
        Check.index("0 of none", () -> h.told(0, true));
        h.report(0, 0, 1);
        Check.index("-1", () -> h.told(-1, false));
        Check.index("1 of one", () -> h.told(1, false));
        Check.index("60", () -> h.told(60, true));
    }

    @Sentence(in = AT, says = ITS_NUMBER)
    static void atChart() {
        charts((h, chart) -> h.at(chart, 0, 0));
    }

    @Sentence(in = AT, says = POINT)
    static void atPoint() {
        PortolanHall h = Halls.charts(1000);
        for (int what = 0; what <= 5; what++) {
            int one = what;
            Edge.indexes("point, " + what, 0, 23, point -> h.at(0, point, one));
        }
        Check.same("name of 0", h.at(0, 0, 2), 1);
        Check.same("name of 23", h.at(0, 23, 2), 24);
    }

    @Sentence(in = AT, says = "0 and 1 its place, x and y, NOWHERE if it is unknown")
    static void atAPlace() {
        PortolanHall h = Halls.charts(1000);
        Check.same("x", h.at(0, 23, 0), 230);
        Check.same("y", h.at(0, 23, 1), -69);
        h.lose(0, 23, 23);
        Check.same("x of an unknown point", h.at(0, 23, 0), 100000);
        Check.same("y of an unknown point", h.at(0, 23, 1), 100000);
    }

    @Sentence(in = AT, says = "2 its name")
    static void atAName() {
        PortolanHall h = Halls.charts(1000);
        h.exchange(0, 0, 23);
        h.lose(0, 0, 0);
        Check.same("of an unknown point", h.at(0, 0, 2), 24);
        Check.same("of a known one", h.at(0, 23, 2), 1);
    }

    @Sentence(in = AT, says = "3 the chart from which it has it, NONE if it came from reports, or is unknown")
    static void atASource() {
        PortolanHall h = Halls.charts(1000);
        h.copy(0, 0, 0, 1000);
        h.copy(1, 0, 0, 1000);
        h.lose(1, 23, 23);
        Check.same("from reports", h.at(0, 0, 3), -1);
        Check.same("from the chart 0", h.at(1, 0, 3), 0);
        Check.same("from the chart 1", h.at(2, 0, 3), 1);
        Check.same("unknown", h.at(1, 23, 3), -1);
        Check.same("from one that has lost it", h.at(2, 23, 3), 1);
    }

    @Sentence(in = AT, says = "4 and 5 its error, NOWHERE if it is unknown")
    static void atAnError() {
        PortolanHall h = Halls.charts(1000);
        h.hand(0, 9);
        h.copy(0, 0, Halls.EYE, 1000);
        Check.same("no error in x", h.at(0, 23, 4), 0);
        Check.same("no error in y", h.at(0, 23, 5), 0);
        Check.same("error in x", h.at(1, 23, 4), 9);
        Check.same("error in y", h.at(1, 23, 5), -9);
        h.lose(1, 23, 23);
        Check.same("of an unknown point in x", h.at(1, 23, 4), 100000);
        Check.same("of an unknown point in y", h.at(1, 23, 5), 100000);
    }

    @Sentence(in = AT, says = NO_CHART_OR_POINT)
    static void atWithoutSuchAChartOrPoint() {
        PortolanHall h = Halls.charts(1000);
        Check.index("chart -1", () -> h.at(-1, 0, 0));
        Check.index("chart 1 of one", () -> h.at(1, 0, 0));
        Check.index("point -1", () -> h.at(0, -1, 0));
        Check.index("point 24", () -> h.at(0, 24, 0));
        Check.index("point 24, what 6", () -> h.at(0, 24, 6));
        Check.index("chart 1, what -1", () -> h.at(1, 0, -1));
    }

    @Sentence(in = AT, says = WRONG_WHAT)
    static void atOutOfRange() {
        PortolanHall h = Halls.charts(1000);
        h.lose(0, 5, 5);
        Edge.arguments("what", 0, 5, what -> h.at(0, 0, what));
        Edge.arguments("what of an unknown point", 0, 5, what -> h.at(0, 5, what));
    }

    @Sentence(in = CHAIN, says = ITS_NUMBER)
    static void chainChart() {
        charts((h, chart) -> h.chain(chart, 0, 0));
    }

    @Sentence(in = CHAIN, says = POINT)
    static void chainPoint() {
        PortolanHall h = Halls.charts(1000);
        Edge.indexes("point", 0, 23, point -> h.chain(0, point, 0));
        Edge.indexes("point, a place behind its end", 0, 23, point -> h.chain(0, point, 1));
        h.lose(0, 0, 23);
        Edge.indexes("unknown point", 0, 23, point -> h.chain(0, point, 0));
    }

    @Sentence(in = CHAIN, says = "`place`: 0 for the chart itself")
    static void chainPlace() {
        PortolanHall h = Halls.twelveCopies();
        for (int chart = 0; chart < 12; chart++) {
            Check.same("place 0", h.chain(chart, 5, 0), chart);
            Check.same("the last place", h.chain(chart, 5, chart), 0);
        }
        Check.index("place -1", () -> h.chain(11, 5, -1));
    }

    @Sentence(in = CHAIN, says = "Returns the chart; NONE if there are not so many, or the point is unknown.")
    static void chainReturnsNoneBehindItsEnd() {
        PortolanHall h = Halls.twelveCopies();
        for (int chart = 0; chart < 12; chart++) {
            Check.same("the last of it", h.chain(chart, 5, chart), 0);
            Check.same("one behind its end", h.chain(chart, 5, chart + 1), -1);
            Check.same("two behind its end", h.chain(chart, 5, chart + 2), -1);
        }
        Check.same("as far as numbers go", h.chain(11, 5, Integer.MAX_VALUE), -1);
    }

    @Sentence(in = CHAIN, says = "Returns the chart; NONE if there are not so many, or the point is unknown.")
    static void chainReturnsNoneForAnUnknownPoint() {
        PortolanHall h = Halls.twelveCopies();
        h.lose(11, 5, 5);
        for (int place = 0; place < 13; place++) {
            Check.same("place " + place, h.chain(11, 5, place), -1);
        }
        Check.same("of the one ahead", h.chain(10, 5, 0), 10);
    }

    @Sentence(in = CHAIN, says = "Throws `IndexOutOfBoundsException` if there is no such chart or point, or place is "
        + "below 0")
    static void chainWithoutSuchAChartPointOrPlace() {
        PortolanHall h = Halls.charts(1000);
        Check.index("chart -1", () -> h.chain(-1, 0, 0));
        Check.index("chart 1 of one", () -> h.chain(1, 0, 0));
        Check.index("point -1", () -> h.chain(0, -1, 0));
        Check.index("point 24", () -> h.chain(0, 24, 0));
        Check.index("place -1", () -> h.chain(0, 0, -1));
        Check.index("the lowest place", () -> h.chain(0, 0, Integer.MIN_VALUE));
        h.lose(0, 0, 0);
        Check.index("place -1 of an unknown point", () -> h.chain(0, 0, -1));
    }

    @Sentence(in = OF, says = ITS_NUMBER)
    static void ofChart() {
        charts((h, chart) -> h.of(chart, 0));
    }

    @Sentence(in = OF, says = "0 its year")
    static void ofAYear() {
        PortolanHall h = Halls.charts(0, 2000);
        Check.same("the lowest", h.of(0, 0), 0);
        Check.same("the highest", h.of(1, 0), 2000);
    }

    @Sentence(in = OF, says = "1 how many points it knows")
    static void ofItsPoints() {
        PortolanHall h = Halls.charts(1000);
        Check.same("all", h.of(0, 1), 24);
        h.lose(0, 0, 0);
        Check.same("all but the first", h.of(0, 1), 23);
        h.lose(0, 2, 23);
        Check.same("one", h.of(0, 1), 1);
        h.lose(0, 1, 1);
        Check.same("none", h.of(0, 1), 0);
    }

    @Sentence(in = OF, says = "2 how many islands it has")
    static void ofItsIslands() {
        PortolanHall h = Halls.charts(1000, 1000);
        Check.same("none", h.of(0, 2), 0);
        for (int island = 0; island < 20; island++) {
            h.island(0, 0, 0);
            Check.same("islands", h.of(0, 2), island + 1);
        }
        h.paint(0, 0);
        h.paint(0, 19);
        Check.same("without the first and the last", h.of(0, 2), 18);
        Check.same("of another chart", h.of(1, 2), 0);
    }

    @Sentence(in = OF, says = "3 to 5 the scales of the basins")
    static void ofItsScales() {
        PortolanHall h = Halls.charts(1000);
        h.shrink(0, 0, 50, true);
        h.shrink(0, 2, 200, true);
        Check.same("of the first basin", h.of(0, 3), 50);
        Check.same("of the second basin", h.of(0, 4), 100);
        Check.same("of the last basin", h.of(0, 5), 200);
    }

    @Sentence(in = OF, says = "6 how many of its names are not the true ones")
    static void ofItsFalseNames() {
        PortolanHall h = Halls.charts(1000);
        Check.same("none", h.of(0, 6), 0);
        h.exchange(0, 0, 23);
        Check.same("of the first and the last point", h.of(0, 6), 2);
        h.lose(0, 0, 23);
        Check.same("of unknown points", h.of(0, 6), 2);
        for (int point = 0; point < 23; point++) {
            h.exchange(0, point, point + 1);
        }
        Check.same("all but one of them", h.of(0, 6), 23);
    }

    @Sentence(in = OF, says = "6 how many of its names are not the true ones")
    static void ofAllFalseNames() {
        PortolanHall h = Halls.charts(1000);
        for (int point = 0; point < 23; point += 2) {
            h.exchange(0, point, point + 1);
        }
        Check.same("all", h.of(0, 6), 24);
        h.exchange(0, 22, 23);
        Check.same("all but the last two", h.of(0, 6), 22);
    }

    @Sentence(in = OF, says = NO_CHART)
    static void ofWithoutSuchAChart() {
        PortolanHall h = Halls.charts(1000);
        Check.index("-1", () -> h.of(-1, 0));
        Check.index("1 of one", () -> h.of(1, 6));
        Check.index("1 of one, what 7", () -> h.of(1, 7));
    }

    @Sentence(in = OF, says = WRONG_WHAT)
    static void ofOutOfRange() {
        PortolanHall h = Halls.charts(1000);
        Edge.arguments("what", 0, 6, what -> h.of(0, what));
    }

    @Sentence(in = OF_ISLAND, says = "`island`: its number")
    static void ofIslandIsland() {
        PortolanHall h = Halls.charts(1000);
        Check.index("0 of none", () -> h.ofIsland(0, 0));
        for (int island = 0; island < 20; island++) {
            int last = h.island(0, 0, 0);
            Edge.indexes("of " + (last + 1), 0, last, one -> h.ofIsland(one, 0));
        }
    }

    @Sentence(in = OF_ISLAND, says = "0 on how many charts it is")
    static void ofIslandHowManyCharts() {
        PortolanHall h = Halls.reports(1);
        h.chart(1, 1000);
        h.island(0, 0, 0);
        for (int copy = 1; copy < 12; copy++) {
            Check.same("charts", h.ofIsland(0, 0), copy);
            h.copy(0, 0, 0, 1000);
        }
        Check.same("all", h.ofIsland(0, 0), 12);
        for (int chart = 0; chart < 12; chart++) {
            h.paint(chart, 0);
            Check.same("painted over up to " + chart, h.ofIsland(0, 0), 11 - chart);
        }
    }

    @Sentence(in = OF_ISLAND, says = "1 and 2 its place")
    static void ofIslandItsPlace() {
        PortolanHall h = Halls.charts(1000);
        h.island(0, -999, 999);
        h.island(0, 999, -999);
        h.hand(0, 9);
        h.copy(0, 0, Halls.EYE, 1000);
        h.paint(0, 0);
        h.paint(1, 0);
        Check.same("x of the first, painted over", h.ofIsland(0, 1), -999);
        Check.same("y of the first, painted over", h.ofIsland(0, 2), 999);
        Check.same("x of the second", h.ofIsland(1, 1), 999);
        Check.same("y of the second", h.ofIsland(1, 2), -999);
    }

    @Sentence(in = OF_ISLAND, says = "3 the chart on which it was drawn first")
    static void ofIslandTheFirstChart() {
        PortolanHall h = Halls.twelveCopies();
        h.island(11, 0, 0);
        h.island(0, 0, 0);
        h.paint(11, 0);
        Check.same("the last chart, painted over", h.ofIsland(0, 3), 11);
        Check.same("the first chart", h.ofIsland(1, 3), 0);
        PortolanHall copied = Halls.charts(1000, 1000);
        copied.island(1, 0, 0);
        copied.copy(1, 0, 0, 1000);
        copied.paint(1, 0);
        Check.same("not the copy", copied.ofIsland(0, 3), 1);
    }

    @Sentence(in = OF_ISLAND, says = "4 the highest chart that has it, NONE")
    static void ofIslandTheHighestChart() {
        PortolanHall h = Halls.reports(1);
        h.chart(1, 1000);
        h.island(0, 0, 0);
        for (int copy = 1; copy < 12; copy++) {
            Check.same("highest", h.ofIsland(0, 4), copy - 1);
            h.copy(0, 0, 0, 1000);
        }
        Check.same("the last one", h.ofIsland(0, 4), 11);
        h.paint(5, 0);
        Check.same("the last one still", h.ofIsland(0, 4), 11);
        for (int chart = 11; chart > 6; chart--) {
            h.paint(chart, 0);
            Check.same("painted over down to " + chart, h.ofIsland(0, 4), chart - 1);
        }
        h.paint(6, 0);
        Check.same("past one that has it no more", h.ofIsland(0, 4), 4);
        for (int chart = 0; chart < 5; chart++) {
            h.paint(chart, 0);
        }
        Check.same("none", h.ofIsland(0, 4), -1);
    }

    @Sentence(in = OF_ISLAND, says = "Throws `IndexOutOfBoundsException` if there is no such island")
    static void ofIslandWithoutSuchAnIsland() {
        PortolanHall h = Halls.charts(1000);
        Check.index("0 of none", () -> h.ofIsland(0, 0));
        h.island(0, 0, 0);
        Check.index("-1", () -> h.ofIsland(-1, 0));
        Check.index("1 of one", () -> h.ofIsland(1, 4));
        Check.index("1 of one, what 5", () -> h.ofIsland(1, 5));
        Check.index("20", () -> h.ofIsland(20, 0));
    }

    @Sentence(in = OF_ISLAND, says = WRONG_WHAT)
    static void ofIslandOutOfRange() {
        PortolanHall h = Halls.charts(1000);
        h.island(0, 0, 0);
        Edge.arguments("what", 0, 4, what -> h.ofIsland(0, what));
        h.paint(0, 0);
        Edge.arguments("what of one painted over", 0, 4, what -> h.ofIsland(0, what));
    }

    @Sentence(in = FIT, says = ITS_NUMBER)
    static void fitChart() {
        charts((h, chart) -> h.fit(chart, 0, 0));
    }

    @Sentence(in = FIT, says = BASIN)
    static void fitBasin() {
        PortolanHall h = Halls.charts(1000);
        h.shrink(0, 2, 200, false);
        Edge.indexes("basin", 0, 2, basin -> h.fit(0, basin, 2));
        Halls.fitIs(h, 0, 0, 0, 0, 0);
        Halls.fitIs(h, 0, 1, 0, 0, 0);
        Check.same("shift of the last", h.fit(0, 2, 0), 195);
    }

    @Sentence(in = FIT, says = "0 and 1 the shift in x and y, 2 the residual; 0 each without known points")
    static void fitWithoutKnownPoints() {
        PortolanHall h = Halls.charts(1000);
        h.hand(0, 9);
        h.copy(0, 0, Halls.EYE, 1000);
        Halls.fitIs(h, 1, 1, 9, -9, 0);
        h.lose(1, 8, 14);
        Halls.fitIs(h, 1, 1, 9, -9, 0);
        h.lose(1, 15, 15);
        Halls.fitIs(h, 1, 1, 0, 0, 0);
        Halls.fitIs(h, 1, 0, 9, -9, 0);
        Halls.fitIs(h, 1, 2, 9, -9, 0);
    }

    @Sentence(in = FIT, says = "0 and 1 the shift in x and y, 2 the residual; 0 each without known points")
    static void fitOfTheFarthestPlaces() {
        PortolanHall h = Halls.onePoint(404, -404);
        Halls.shrink(h, 0, 0, 125, 200, 200, 200, 125, 198);
        // Errors of 0, and of 9595 and -9595: a mean of 4797, from which 4797 and 4798 differ, in both ways.
        Halls.fitIs(h, 0, 0, 4797, -4797, 2 * (4797 + 4798));
    }

    @Sentence(in = FIT, says = NO_CHART_OR_BASIN)
    static void fitWithoutSuchAChartOrBasin() {
        PortolanHall h = Halls.charts(1000);
        Check.index("chart -1", () -> h.fit(-1, 0, 0));
        Check.index("chart 1 of one", () -> h.fit(1, 0, 0));
        Check.index("basin -1", () -> h.fit(0, -1, 0));
        Check.index("basin 3", () -> h.fit(0, 3, 2));
        Check.index("basin 3, what 3", () -> h.fit(0, 3, 3));
    }

    @Sentence(in = FIT, says = WRONG_WHAT)
    static void fitOutOfRange() {
        PortolanHall h = Halls.charts(1000);
        Edge.arguments("what", 0, 2, what -> h.fit(0, 0, what));
        h.lose(0, 0, 23);
        Edge.arguments("what without known points", 0, 2, what -> h.fit(0, 0, what));
    }

    @Sentence(in = SHARED, says = ITS_NUMBER)
    static void sharedChart() {
        charts((h, chart) -> h.shared(chart, 0, 0));
    }

    @Sentence(in = SHARED, says = "`other`: its number")
    static void sharedOther() {
        charts((h, other) -> h.shared(0, other, 0));
        PortolanHall h = Halls.charts(1000);
        h.exchange(0, 0, 1);
        Check.same("the chart itself", h.shared(0, 0, 0), 2);
    }

    @Sentence(in = SHARED, says = BASIN)
    static void sharedBasin() {
        PortolanHall h = Halls.charts(1000);
        h.exchange(0, 7, 16);
        h.copy(0, 0, 0, 1000);
        Edge.indexes("basin", 0, 2, basin -> h.shared(0, 1, basin));
        Halls.sharedIs(h, 0, 1, 1, 0, 1);
    }

    @Sentence(in = SHARED, says = "Returns how many.")
    static void sharedReturnsHowMany() {
        PortolanHall h = Halls.charts(1000);
        h.copy(0, 0, 0, 1000);
        Halls.sharedIs(h, 0, 1, 0, 0, 0);
        h.hand(0, -9);
        h.copy(0, 0, Halls.EYE, 1000);
        for (int point = 0; point < 24; point += 2) {
            h.exchange(2, point, point + 1);
        }
        for (int island = 0; island < 20; island++) {
            h.island(2, 0, 0);
        }
        h.copy(2, 0, Halls.PRICKED, 1000);
        Halls.sharedIs(h, 2, 3, 36, 36, 36);
        Halls.sharedIs(h, 3, 2, 36, 36, 36);
        Halls.sharedIs(h, 0, 3, 0, 0, 0);
    }

    @Sentence(in = SHARED, says = "Throws `IndexOutOfBoundsException` if there is no such chart, of either, or basin")
    static void sharedWithoutSuchAChartOrBasin() {
        PortolanHall h = Halls.charts(1000);
        Check.index("chart -1", () -> h.shared(-1, 0, 0));
        Check.index("chart 1 of one", () -> h.shared(1, 0, 0));
        Check.index("other -1", () -> h.shared(0, -1, 0));
        Check.index("other 1 of one", () -> h.shared(0, 1, 0));
        Check.index("basin -1", () -> h.shared(0, 0, -1));
        Check.index("basin 3", () -> h.shared(0, 0, 3));
    }

    @Sentence(in = KIN, says = ITS_NUMBER)
    static void kinChart() {
        charts((h, chart) -> h.kin(chart, 0));
    }

    @Sentence(in = KIN, says = BASIN)
    static void kinBasin() {
        PortolanHall h = Halls.charts(1000);
        h.exchange(0, 7, 16);
        h.copy(0, 0, 0, 1000);
        Edge.indexes("basin", 0, 2, basin -> h.kin(1, basin));
        Check.same("of the first basin", h.kin(1, 0), 0);
        Check.same("of the second basin", h.kin(1, 1), -1);
        Check.same("of the last basin", h.kin(1, 2), 0);
    }

    @Sentence(in = KIN, says = "Returns the chart; NONE if there is none.")
    static void kinReturnsTheChartOrNone() {
        PortolanHall h = Halls.charts(1000);
        h.exchange(0, 0, 1);
        for (int copy = 1; copy < 12; copy++) {
            h.copy(copy - 1, 0, 0, 1000);
        }
        Check.same("of the first chart", h.kin(0, 0), -1);
        for (int chart = 1; chart < 12; chart++) {
            Check.same("of " + chart, h.kin(chart, 0), 0);
            Check.same("of " + chart + " in another basin", h.kin(chart, 1), -1);
        }
        h.exchange(11, 22, 23);
        h.exchange(10, 22, 23);
        Check.same("of the last, the one ahead", h.kin(11, 2), 10);
        Check.same("of the one ahead, not the last", h.kin(10, 2), -1);
    }

    @Sentence(in = KIN, says = NO_CHART_OR_BASIN)
    static void kinWithoutSuchAChartOrBasin() {
        PortolanHall h = Halls.charts(1000);
        Check.index("chart -1", () -> h.kin(-1, 0));
        Check.index("chart 1 of one", () -> h.kin(1, 0));
        Check.index("basin -1", () -> h.kin(0, -1));
        Check.index("basin 3", () -> h.kin(0, 3));
    }

    @Sentence(in = DATE, says = ITS_NUMBER)
    static void dateChart() {
        charts((h, chart) -> h.date(chart, 0));
    }

    @Sentence(in = DATE, says = BASIN)
    static void dateBasin() {
        PortolanHall h = new PortolanHall();
        for (int point = 0; point < 24; point++) {
            h.coast(point, 0, 0, point + 1, 500 + point);
        }
        h.pilot(0, 0);
        h.report(0, 0, 1);
        h.chart(1, 0);
        Edge.indexes("basin", 0, 2, basin -> h.date(0, basin));
        Check.same("of the first basin", h.date(0, 0), 507);
        Check.same("of the second basin", h.date(0, 1), 515);
        Check.same("of the last basin", h.date(0, 2), 523);
    }

    @Sentence(in = DATE, says = "Returns the year; NONE without true names.")
    static void dateReturnsTheYearOrNone() {
        PortolanHall h = new PortolanHall();
        for (int point = 8; point < 16; point++) {
            h.coast(point, 0, 0, point + 1, point == 15 ? 2000 : point == 8 ? 1 : 0);
        }
        h.pilot(0, 0);
        h.report(0, 0, 1);
        h.chart(1, 0);
        Check.same("the highest year", h.date(0, 1), 2000);
        h.exchange(0, 15, 23);
        Check.same("the first point's year", h.date(0, 1), 1);
        h.exchange(0, 8, 22);
        Check.same("the lowest year", h.date(0, 1), 0);
        for (int point = 9; point < 14; point++) {
            h.exchange(0, point, point - 9);
        }
        Check.same("of one true name", h.date(0, 1), 0);
        h.exchange(0, 14, 7);
        Check.same("without true names", h.date(0, 1), -1);
    }

    @Sentence(in = DATE, says = NO_CHART_OR_BASIN)
    static void dateWithoutSuchAChartOrBasin() {
        PortolanHall h = Halls.charts(1000);
        Check.index("chart -1", () -> h.date(-1, 0));
        Check.index("chart 1 of one", () -> h.date(1, 0));
        Check.index("basin -1", () -> h.date(0, -1));
        Check.index("basin 3", () -> h.date(0, 3));
    }
}
