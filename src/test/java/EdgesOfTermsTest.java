/** The sentences that stand ahead of 'The coast', and those of 'The coast'. */
public final class EdgesOfTermsTest {
    private static final String FACE = "The public face";
    private static final String TERMS = "Terms";
    private static final String COAST = "The coast";
    private static final String TRUE_PLACE = "Each point has a true place, x and y, -500 to 500 each, at first 0";
    private static final String TRUE_NAME = "a true name, 1 to 99, at first its number and 1";
    private static final String FOUNDED = "a year in which its harbour was founded, 0 to 2000, at first 1000";
    private static final String RUN = "x is reported as dx, less dy times the turn divided by 100, and that together "
        + "times the error divided by 100 more; y likewise with dy, and dx times the turn divided by 100 more.";
    private static final String DIVIDED = "where something is divided, it is rounded towards 0.";

    public static void main(String[] args) {
        Sentences.run(EdgesOfTermsTest.class);
    }

    @Sentence(in = "What it is", says = "An object is used for at most 512 calls after it has been made")
    static void the512thCallIsAnswered() {
        PortolanHall h = new PortolanHall();
        h.hand(0, 1);
        for (int call = 2; call <= 512; call++) {
            Check.same("the call " + call, h.hand(0, call % 9), call == 2 ? 1 : (call - 1) % 9);
        }
    }

    @Sentence(in = "What it is", says = "An object is used for at most 512 calls after it has been made")
    static void the512thCallOfAFullHallIsAnswered() {
        PortolanHall h = Halls.twelveCopies();
        for (int call = 61; call < 512; call++) {
            h.chain(11, 23, 11);
        }
        Check.same("the 512th call", h.chain(11, 23, 11), 0);
    }

    @Sentence(in = FACE, says = "public static final int NONE = -1;")
    static void noneIsMinus1() {
        Check.same("NONE", PortolanHall.NONE, -1);
    }

    @Sentence(in = FACE, says = "public static final int NOWHERE = 100000;")
    static void nowhereIs100000() {
        Check.same("NOWHERE", PortolanHall.NOWHERE, 100000);
    }

    @Sentence(in = FACE, says = "public static final int PRICKED = 0, GRID = 1, EYE = 2;")
    static void waysAre0To2() {
        Check.same("PRICKED", PortolanHall.PRICKED, 0);
        Check.same("GRID", PortolanHall.GRID, 1);
        Check.same("EYE", PortolanHall.EYE, 2);
    }

    @Sentence(in = TERMS, says = "A chart knows nothing that its sources did not.")
    static void aCopyKnowsNoMoreThanItsPattern() {
        PortolanHall h = Halls.charts(1000);
        h.lose(0, 0, 4);
        h.lose(0, 23, 23);
        h.hand(0, 9);
        for (int way = 0; way <= 2; way++) {
            int copy = h.copy(0, 0, way, 1000);
            Check.same("known points of the copy " + way, h.of(copy, 1), 18);
            Halls.isUnknown(h, copy, 0);
            Halls.isUnknown(h, copy, 4);
            Halls.isUnknown(h, copy, 23);
        }
    }

    @Sentence(in = TERMS, says = "A chart knows nothing that its sources did not.")
    static void aCopyOfAnEmptyChartKnowsNothing() {
        PortolanHall h = Halls.charts(1000);
        h.lose(0, 0, 23);
        Check.same("known points of the copy", h.of(h.copy(0, 0, Halls.EYE, 1000), 1), 0);
    }

    @Sentence(in = TERMS, says = "A chart knows nothing that its sources did not.")
    static void aPasteGivesNoMoreThanTheSourceKnows() {
        PortolanHall h = Halls.charts(1000, 1000);
        h.lose(0, 3, 5);
        Check.same("known points of the stretch", h.paste(1, 0, 2, 6), 2);
        Halls.isUnknown(h, 1, 3);
        Halls.isUnknown(h, 1, 5);
    }

    @Sentence(in = TERMS, says = "A chart knows nothing that its sources did not.")
    static void aChartKnowsNoPointWithoutReports() {
        PortolanHall h = Halls.line();
        h.chart(1, 1000);
        Check.same("known points", h.of(0, 1), 2);
        Halls.isUnknown(h, 0, 2);
        Halls.isUnknown(h, 0, 23);
    }

    @Sentence(in = TERMS, says = "Questions change nothing.")
    static void whatIsAskedTwiceIsAnsweredAlike() {
        PortolanHall one = Halls.charts(1000);
        PortolanHall two = Halls.charts(1000);
        one.lose(0, 5, 6);
        two.lose(0, 5, 6);
        one.island(0, 1, 1);
        two.island(0, 1, 1);
        Picture.of(one);
        Check.yes("the answers are alike", Picture.of(one).equals(Picture.of(two)));
    }

    @Sentence(in = TERMS, says = DIVIDED)
    static void theTurnIsRoundedTowards0() {
        turnGives(33, 3, 0);
        turnGives(50, 2, -1);
        turnGives(66, 3, -1);
        turnGives(100, 2, -2);
        turnGives(33, -3, 0);
        turnGives(50, -2, 1);
        turnGives(66, -3, 1);
        turnGives(-33, 3, 0);
        turnGives(-66, 3, 1);
        turnGives(-66, -3, -1);
    }

    /** The way is dy alone; x is what the turn makes of it. In y, of dx alone, it is the other way round. */
    private static void turnGives(int way, int turn, int due) {
        PortolanHall h = new PortolanHall();
        h.coast(1, 0, way, 2, 1000);
        h.coast(2, way, 0, 3, 1000);
        h.pilot(turn, 0);
        h.report(0, 0, 1);
        h.report(0, 0, 2);
        Halls.toldIs(h, 0, due, way);
        Halls.toldIs(h, 1, way, -due);
    }

    @Sentence(in = TERMS, says = DIVIDED)
    static void theErrorOfTheLogIsRoundedTowards0() {
        errorGives(33, 3, 33);
        errorGives(50, 2, 51);
        errorGives(66, 3, 67);
        errorGives(33, -3, 33);
        errorGives(66, -3, 65);
        errorGives(-33, 3, -33);
        errorGives(-66, 3, -67);
        errorGives(-66, -3, -65);
    }

    private static void errorGives(int way, int error, int due) {
        PortolanHall h = new PortolanHall();
        h.coast(1, way, way, 2, 1000);
        h.pilot(0, error);
        h.report(0, 0, 1);
        Halls.toldIs(h, 0, due, due);
    }

    @Sentence(in = TERMS, says = DIVIDED)
    static void theMeanOfPlacesIsRoundedTowards0() {
        PortolanHall h = new PortolanHall();
        h.coast(1, 10, -10, 2, 1000);
        h.coast(2, 1, -1, 3, 1000);
        h.pilot(0, 0);
        h.pilot(0, 10);
        h.report(0, 0, 1);
        h.report(1, 0, 1);
        h.report(0, 2, 0);
        h.chart(3, 1000);
        Halls.placeIs(h, 0, 1, 10, -10);
        PortolanHall third = new PortolanHall();
        third.coast(1, 10, -10, 2, 1000);
        third.pilot(0, 0);
        third.pilot(0, 10);
        third.report(1, 0, 1);
        third.report(0, 0, 1);
        third.report(1, 0, 1);
        third.chart(3, 1000);
        Halls.placeIs(third, 0, 1, 10, -10);
    }

    @Sentence(in = TERMS, says = DIVIDED)
    static void aPlaceThatShrinksIsRoundedTowards0() {
        shrinksTo(1, 99, 0);
        shrinksTo(2, 50, 1);
        shrinksTo(3, 50, 1);
        shrinksTo(199, 50, 99);
        shrinksTo(1, 199, 1);
        shrinksTo(1, 200, 2);
    }

    private static void shrinksTo(int from, int hundredths, int due) {
        PortolanHall h = Halls.onePoint(from, -from);
        h.shrink(0, 0, hundredths, false);
        Halls.placeIs(h, 0, 1, due, -due);
    }

    @Sentence(in = TERMS, says = DIVIDED)
    static void theShiftIsRoundedTowards0() {
        shiftIs(1, 0);
        shiftIs(2, 1);
        shiftIs(3, 1);
        shiftIs(4, 2);
    }

    /** The points 8 and 9, that have an error in both ways, and none: the mean is of two. */
    private static void shiftIs(int error, int due) {
        PortolanHall h = new PortolanHall();
        h.coast(8, 100, -100, 9, 1000);
        h.pilot(0, error);
        h.pilot(0, 0);
        h.report(0, 0, 8);
        h.report(1, 0, 9);
        h.chart(2, 1000);
        Check.same("shift in x", h.fit(0, 1, 0), due);
        Check.same("shift in y", h.fit(0, 1, 1), -due);
    }

    @Sentence(in = COAST, says = "The coast has the points 0 to 23, one behind the other")
    static void pointsAre0To23() {
        PortolanHall h = new PortolanHall();
        Edge.indexes("the point", 0, 23, point -> h.coast(point, 0, 0, 1, 1000));
        PortolanHall charted = Halls.charts(1000);
        Edge.indexes("the point asked for", 0, 23, point -> charted.at(0, point, 2));
    }

    @Sentence(in = COAST, says = "the basins 0 to 2 have 8 of them each, from the lowest on.")
    static void basinsAre0To2() {
        PortolanHall h = Halls.charts(1000);
        Edge.indexes("the basin", 0, 2, basin -> h.date(0, basin));
        Edge.indexes("the basin that shrinks", 0, 2, basin -> h.shrink(0, basin, 100, false));
    }

    @Sentence(in = COAST, says = "the basins 0 to 2 have 8 of them each, from the lowest on.")
    static void aBasinHasEightPointsFromTheLowestOn() {
        for (int basin = 0; basin < 3; basin++) {
            PortolanHall h = Halls.charts(1000);
            h.shrink(0, basin, 200, false);
            for (int point = 1; point < 24; point++) {
                boolean isOfIt = point / 8 == basin;
                Halls.placeIs(h, 0, point, isOfIt ? 20 * point : 10 * point, isOfIt ? -6 * point : -3 * point);
            }
        }
    }

    @Sentence(in = COAST, says = TRUE_PLACE)
    static void aTruePlaceIsMinus500To500() {
        PortolanHall h = new PortolanHall();
        Edge.arguments("x", -500, 500, x -> h.coast(0, x, 0, 1, 1000));
        Edge.arguments("y", -500, 500, y -> h.coast(23, 0, y, 1, 1000));
    }

    @Sentence(in = COAST, says = TRUE_PLACE)
    static void aTruePlaceIsAtFirst0() {
        PortolanHall h = new PortolanHall();
        h.pilot(0, 0);
        for (int point = 1; point < 24; point++) {
            h.report(0, 0, point);
            Halls.toldIs(h, point - 1, 0, 0);
        }
        h.chart(23, 1000);
        for (int point = 0; point < 24; point++) {
            Halls.placeIs(h, 0, point, 0, 0);
        }
    }

    @Sentence(in = COAST, says = TRUE_NAME)
    static void aTrueNameIs1To99() {
        PortolanHall h = new PortolanHall();
        Edge.arguments("name", 1, 99, name -> h.coast(23, 0, 0, name, 1000));
    }

    @Sentence(in = COAST, says = TRUE_NAME)
    static void aTrueNameIsAtFirstTheNumberAnd1() {
        PortolanHall h = Halls.reports(1);
        h.chart(1, 1000);
        for (int point = 0; point < 24; point++) {
            Check.same("name of " + point, h.at(0, point, 2), point + 1);
        }
        Check.same("false names", h.of(0, 6), 0);
    }

    @Sentence(in = COAST, says = FOUNDED)
    static void aHarbourIsFoundedFrom0To2000() {
        PortolanHall h = new PortolanHall();
        Edge.arguments("year", 0, 2000, year -> h.coast(7, 0, 0, 8, year));
    }

    @Sentence(in = COAST, says = FOUNDED)
    static void aHarbourIsFoundedAtFirstIn1000() {
        for (int point = 0; point < 24; point++) {
            PortolanHall h = new PortolanHall();
            for (int other = point / 8 * 8; other < point / 8 * 8 + 8; other++) {
                if (other != point) {
                    h.coast(other, 0, 0, other + 1, 0);
                }
            }
            h.pilot(0, 0);
            h.report(0, 0, 1);
            h.chart(1, 1000);
            Check.same("year of " + point, h.date(0, point / 8), 1000);
        }
    }

    @Sentence(in = COAST, says = "Pilots are numbered from 0, at most 6")
    static void pilotsAreNumberedFrom0AtMost6() {
        PortolanHall h = new PortolanHall();
        for (int pilot = 0; pilot < 6; pilot++) {
            Check.same("pilot", h.pilot(0, 0), pilot);
        }
        Check.state("the seventh pilot", () -> h.pilot(0, 0));
        Check.taken("a report of the sixth pilot", () -> h.report(5, 0, 1));
        Check.index("a report of the seventh pilot", () -> h.report(6, 0, 1));
    }

    @Sentence(in = COAST, says = "each with a turn of the needle and an error of the log, -30 to 30 hundredths each.")
    static void aTurnIsMinus30To30() {
        PortolanHall h = new PortolanHall();
        Edge.arguments("turn", -30, 30, turn -> h.pilot(turn, 0));
    }

    @Sentence(in = COAST, says = "each with a turn of the needle and an error of the log, -30 to 30 hundredths each.")
    static void anErrorIsMinus30To30() {
        PortolanHall h = new PortolanHall();
        Edge.arguments("error", -30, 30, error -> h.pilot(0, error));
    }

    @Sentence(in = COAST, says = RUN)
    static void theLongestRunWithTheGreatestTurnsAndErrors() {
        // 1000 less 300 of the turn, or more; then 30 hundredths of that more, or less.
        runGives(30, 30, 910, 1690);
        runGives(30, -30, 490, 910);
        runGives(-30, 30, 1690, 910);
        runGives(-30, -30, 910, 490);
        runGives(0, 0, 1000, 1000);
    }

    private static void runGives(int turn, int error, int x, int y) {
        PortolanHall h = new PortolanHall();
        h.coast(0, -500, -500, 1, 1000);
        h.coast(1, 500, 500, 2, 1000);
        h.pilot(turn, error);
        h.report(0, 0, 1);
        h.report(0, 1, 0);
        Halls.toldIs(h, 0, x, y);
        Halls.toldIs(h, 1, -x, -y);
    }

    @Sentence(in = COAST, says = RUN)
    static void aRunToTheSamePlaceTellsNothing() {
        PortolanHall h = new PortolanHall();
        h.coast(1, -500, 500, 2, 1000);
        h.coast(2, -500, 500, 3, 1000);
        h.pilot(30, -30);
        h.report(0, 1, 2);
        Halls.toldIs(h, 0, 0, 0);
    }

    @Sentence(in = COAST, says = RUN)
    static void theErrorIsOfWhatTheTurnHasMade() {
        PortolanHall h = new PortolanHall();
        h.coast(1, 101, -7, 2, 1000);
        h.pilot(9, -13);
        h.report(0, 0, 1);
        // x: 101 less -63/100, which is 0; 13 of 101/100 less. y: -7 and 909/100, which is 9; 26/100 less of 2.
        Halls.toldIs(h, 0, 101 - 13, 2);
    }

    @Sentence(in = COAST, says = "Reports are numbered from 0, at most 60.")
    static void reportsAreNumberedFrom0AtMost60() {
        PortolanHall h = new PortolanHall();
        h.pilot(0, 0);
        for (int report = 0; report < 60; report++) {
            Check.same("report", h.report(0, report % 23, 23), report);
        }
        Check.state("the 61st report", () -> h.report(0, 0, 1));
        Check.taken("the 60th report", () -> h.told(59, true));
        Check.index("the 61st report", () -> h.told(60, true));
    }

    @Sentence(in = COAST, says = "A chart is made from some first reports: the point 0 is at its true place.")
    static void aChartOfTheFirstReportAlone() {
        PortolanHall h = new PortolanHall();
        h.coast(0, -500, 500, 1, 1000);
        h.coast(2, 7, 8, 3, 1000);
        h.pilot(30, 30);
        h.report(0, 1, 2);
        h.report(0, 0, 2);
        h.chart(1, 1000);
        Halls.placeIs(h, 0, 0, -500, 500);
        Check.same("known points", h.of(0, 1), 1);
    }

    @Sentence(in = COAST, says = "A chart is made from some first reports: the point 0 is at its true place.")
    static void aChartOfAll60Reports() {
        PortolanHall h = Halls.reports(59);
        h.report(0, 1, 23);
        h.chart(59, 1000);
        h.chart(60, 1000);
        Halls.isUnknown(h, 0, 23);
        Halls.placeIs(h, 1, 23, 0, 0);
    }

    @Sentence(in = COAST, says = "each point that has no place yet")
    static void aPointThatHasAPlaceGetsNoOther() {
        PortolanHall h = new PortolanHall();
        h.coast(1, 100, 0, 2, 1000);
        h.coast(2, 200, 0, 3, 1000);
        h.pilot(0, 0);
        h.pilot(0, 10);
        h.report(0, 0, 1);
        h.report(0, 1, 2);
        h.report(1, 2, 1);
        h.report(1, 2, 0);
        h.report(1, 1, 0);
        h.chart(4, 1000);
        Halls.placeIs(h, 0, 0, 0, 0);
        Halls.placeIs(h, 0, 1, 100, 0);
        Halls.placeIs(h, 0, 2, 220, 0);
        h.chart(5, 1000);
        Halls.placeIs(h, 1, 1, 105, 0);
    }

    @Sentence(in = COAST, says = "from points that had one ahead of the round")
    static void aPlaceOfTheSameRoundGivesNone() {
        PortolanHall h = new PortolanHall();
        h.coast(1, 100, 0, 2, 1000);
        h.coast(2, 200, 0, 3, 1000);
        h.pilot(0, 0);
        h.pilot(0, 10);
        h.report(1, 0, 1);
        h.report(0, 1, 2);
        h.report(0, 0, 2);
        h.chart(3, 1000);
        Halls.placeIs(h, 0, 1, 110, 0);
        Halls.placeIs(h, 0, 2, 200, 0);
        h.chart(2, 1000);
        Halls.placeIs(h, 1, 2, 210, 0);
    }

    @Sentence(in = COAST, says = "or from which reports lead to such (taken the other way round)")
    static void aReportBackIsTakenTheOtherWayRound() {
        PortolanHall h = new PortolanHall();
        h.coast(23, 100, -50, 24, 1000);
        h.coast(22, 110, -50, 23, 1000);
        h.pilot(0, 10);
        h.report(0, 22, 23);
        h.report(0, 23, 0);
        h.chart(2, 1000);
        Halls.placeIs(h, 0, 23, 110, -55);
        Halls.placeIs(h, 0, 22, 121, -55);
    }

    @Sentence(in = COAST, says = "gets the mean of the places that these give, x and y each")
    static void theMeanOfOneTwoAndThree() {
        PortolanHall h = new PortolanHall();
        h.coast(1, 100, -200, 2, 1000);
        h.pilot(0, 0);
        h.pilot(0, 10);
        h.pilot(0, 30);
        h.report(0, 0, 1);
        h.report(1, 1, 0);
        h.report(2, 0, 1);
        h.chart(1, 1000);
        h.chart(2, 1000);
        h.chart(3, 1000);
        Halls.placeIs(h, 0, 1, 100, -200);
        Halls.placeIs(h, 1, 1, 105, -210);
        Halls.placeIs(h, 2, 1, 340 / 3, -680 / 3);
    }

    @Sentence(in = COAST, says = "gets the mean of the places that these give, x and y each")
    static void theMeanOfAll60() {
        PortolanHall h = new PortolanHall();
        h.coast(1, 100, -100, 2, 1000);
        h.pilot(0, 0);
        h.pilot(0, 30);
        for (int report = 0; report < 60; report++) {
            h.report(report < 59 ? 1 : 0, report % 2, 1 - report % 2);
        }
        h.chart(60, 1000);
        h.chart(59, 1000);
        Halls.placeIs(h, 0, 1, (59 * 130 + 100) / 60, -(59 * 130 + 100) / 60);
        Halls.placeIs(h, 1, 1, 130, -130);
    }

    @Sentence(in = COAST, says = "until there is no such point.")
    static void asManyRoundsAsThereAreFurtherPoints() {
        PortolanHall h = new PortolanHall();
        for (int point = 0; point < 24; point++) {
            h.coast(point, 10 * point, -3 * point, point + 1, 1000);
        }
        h.pilot(0, 0);
        for (int point = 23; point > 0; point--) {
            h.report(0, point - point % 2, point - 1 + point % 2);
        }
        h.chart(23, 1000);
        Check.same("known points", h.of(0, 1), 24);
        Halls.placeIs(h, 0, 23, 230, -69);
        h.chart(22, 1000);
        Check.same("known points without the last report", h.of(1, 1), 1);
    }

    @Sentence(in = COAST, says = "Points without a place are unknown.")
    static void pointsWithoutAWayFrom0AreUnknown() {
        PortolanHall h = new PortolanHall();
        h.pilot(0, 0);
        h.report(0, 1, 2);
        h.report(0, 2, 1);
        h.chart(2, 1000);
        Check.same("known points", h.of(0, 1), 1);
        Halls.isUnknown(h, 0, 1);
        Halls.isUnknown(h, 0, 2);
        Halls.isUnknown(h, 0, 23);
    }

    @Sentence(in = COAST, says = "Its names are the true names, its scales 100 for each basin.")
    static void aChartHasTheTrueNamesAndScalesOf100() {
        PortolanHall h = new PortolanHall();
        h.coast(0, 0, 0, 99, 1000);
        h.coast(22, 0, 0, 1, 1000);
        h.coast(23, 0, 0, 1, 1000);
        h.pilot(0, 0);
        h.report(0, 0, 22);
        h.chart(1, 1000);
        Check.same("name of 0", h.at(0, 0, 2), 99);
        Check.same("name of 22, known", h.at(0, 22, 2), 1);
        Check.same("name of 23, unknown", h.at(0, 23, 2), 1);
        for (int basin = 0; basin < 3; basin++) {
            Check.same("scale of " + basin, h.of(0, 3 + basin), 100);
        }
    }
}
