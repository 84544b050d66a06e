/** The sentences of 'What is asked'. */
public final class EdgesOfAskedTest {
    private static final String ASKED = "What is asked";
    private static final String SHIFT = "The shift of a basin is the mean of the errors of its known points";
    private static final String RESIDUAL = "its residual the sum of how much, either way, the errors, x and y, differ "
        + "from the shift.";
    private static final String NAMES = "and another one, if both have the same name there, whether they know it or "
        + "not, and it is not the true one.";
    private static final String KIN = "The kin of a chart in a basin is the chart with a lower number that shares the "
        + "most errors and islands with it there";
    private static final String DATE = "A chart is not older than the youngest harbour of which it has the true name "
        + "at its point, known or not, in the basin that is asked.";

    public static void main(String[] args) {
        Sentences.run(EdgesOfAskedTest.class);
    }

    /** The points 8, 9 and so on have the errors told in x, and as much less in y; a chart of them. */
    private static PortolanHall errors(int... errors) {
        PortolanHall h = new PortolanHall();
        for (int error : errors) {
            h.pilot(0, error);
        }
        for (int i = 0; i < errors.length; i++) {
            h.coast(8 + i, 100, -100, 9 + i, 1000);
        }
        for (int i = 0; i < errors.length; i++) {
            h.report(i, 0, 8 + i);
        }
        h.chart(errors.length, 1000);
        return h;
    }

    @Sentence(in = ASKED, says = "The error of a point of a chart is its place less the true place, x and y.")
    static void anErrorIsThePlaceLessTheTruePlace() {
        PortolanHall h = errors(30, -30, 0);
        int[] due = {30, -30, 0};
        for (int i = 0; i < 3; i++) {
            Check.same("error in x", h.at(0, 8 + i, 4), due[i]);
            Check.same("error in y", h.at(0, 8 + i, 5), -due[i]);
        }
        Check.same("of an unknown point in x", h.at(0, 11, 4), Halls.NOWHERE);
        Check.same("of an unknown point in y", h.at(0, 11, 5), Halls.NOWHERE);
    }

    @Sentence(in = ASKED, says = "The error of a point of a chart is its place less the true place, x and y.")
    static void theErrorsAtTheEdgesOfTheCoast() {
        PortolanHall h = Halls.onePoint(500, -500);
        h.hand(0, 9);
        h.copy(0, 0, Halls.EYE, 1000);
        Check.same("in x", h.at(1, 1, 4), 9);
        Check.same("in y", h.at(1, 1, 5), -9);
        h.shrink(1, 0, 200, false);
        Check.same("in x, grown", h.at(1, 1, 4), 1018 - 500);
        Check.same("in y, grown", h.at(1, 1, 5), -1018 + 500);
    }

    @Sentence(in = ASKED, says = SHIFT)
    static void theShiftOfNoPoint() {
        Halls.fitIs(errors(30), 0, 2, 0, 0, 0);
    }

    @Sentence(in = ASKED, says = SHIFT)
    static void theShiftOfOnePoint() {
        Halls.fitIs(errors(30), 0, 1, 30, -30, 0);
        Halls.fitIs(errors(-30), 0, 1, -30, 30, 0);
    }

    @Sentence(in = ASKED, says = SHIFT)
    static void theShiftOfEightPoints() {
        PortolanHall h = Halls.charts(1000);
        h.shrink(0, 2, 200, false);
        // The errors are 160 to 230 in x, and -48 to -69 in y: means of 195, and of -58 and a half.
        Check.same("in x", h.fit(0, 2, 0), 195);
        Check.same("in y", h.fit(0, 2, 1), -58);
        Halls.fitIs(h, 0, 1, 0, 0, 0);
    }

    @Sentence(in = ASKED, says = SHIFT)
    static void unknownPointsDoNotCount() {
        PortolanHall h = Halls.charts(1000);
        h.shrink(0, 2, 200, false);
        h.lose(0, 17, 22);
        Check.same("in x", h.fit(0, 2, 0), 195);
        h.lose(0, 16, 16);
        Check.same("in x of the last one", h.fit(0, 2, 0), 230);
        h.lose(0, 23, 23);
        Check.same("in x of none", h.fit(0, 2, 0), 0);
    }

    @Sentence(in = ASKED, says = RESIDUAL)
    static void whatDiffersEitherWayIsAdded() {
        Halls.fitIs(errors(10, -10), 0, 1, 0, 0, 40);
        Halls.fitIs(errors(10, 10), 0, 1, 10, -10, 0);
        Halls.fitIs(errors(30, 0, 0), 0, 1, 10, -10, 20 + 10 + 10 + 20 + 10 + 10);
    }

    @Sentence(in = ASKED, says = RESIDUAL)
    static void theResidualOfEightPoints() {
        PortolanHall h = Halls.charts(1000);
        h.shrink(0, 2, 200, false);
        // 160 to 230 differ from 195; -48, -51 and so on to -69 differ from -58.
        int x = 35 + 25 + 15 + 5 + 5 + 15 + 25 + 35;
        int y = 10 + 7 + 4 + 1 + 2 + 5 + 8 + 11;
        Check.same("of all", h.fit(0, 2, 2), x + y);
        h.lose(0, 17, 22);
        Check.same("of the first and the last", h.fit(0, 2, 2), 35 + 35 + 10 + 11);
        h.lose(0, 16, 16);
        Check.same("of the last alone", h.fit(0, 2, 2), 0);
    }

    @Sentence(in = ASKED, says = RESIDUAL)
    static void theResidualIsOfTheRoundedShift() {
        Halls.fitIs(errors(1, 0), 0, 1, 0, 0, 2);
        Halls.fitIs(errors(0, -1), 0, 1, 0, 0, 2);
        Halls.fitIs(errors(-2, -1), 0, 1, -1, 1, 2);
    }

    @Sentence(in = ASKED, says = "Two charts share an error in a point, if both know it")
    static void bothKnowThePoint() {
        PortolanHall h = errors(10, 20);
        h.copy(0, 0, 0, 1000);
        h.copy(0, 0, 0, 1000);
        Halls.sharedIs(h, 0, 1, 0, 2, 0);
        h.lose(0, 8, 8);
        Halls.sharedIs(h, 0, 1, 0, 1, 0);
        Halls.sharedIs(h, 1, 0, 0, 1, 0);
        h.lose(1, 8, 8);
        Halls.sharedIs(h, 0, 1, 0, 1, 0);
        Halls.sharedIs(h, 1, 2, 0, 1, 0);
        h.lose(1, 9, 9);
        Halls.sharedIs(h, 0, 1, 0, 0, 0);
    }

    @Sentence(in = ASKED, says = "and the errors are alike, and not 0 and 0")
    static void theErrorsAreAlike() {
        PortolanHall h = errors(10, 20);
        h.chart(2, 1000);
        Halls.sharedIs(h, 0, 1, 0, 2, 0);
        h.shrink(1, 1, 99, false);
        // 110 and 120 shrink to 108 and 118.
        Halls.sharedIs(h, 0, 1, 0, 0, 0);
        Halls.sharedIs(h, 1, 1, 0, 2, 0);
    }

    @Sentence(in = ASKED, says = "and the errors are alike, and not 0 and 0")
    static void theErrorsAreAlikeInOneWayOnly() {
        PortolanHall h = new PortolanHall();
        h.coast(1, 100, 0, 2, 1000);
        h.pilot(0, 10);
        h.pilot(10, 10);
        h.report(0, 0, 1);
        h.report(1, 1, 0);
        h.report(1, 0, 1);
        h.chart(1, 1000);
        h.chart(3, 1000);
        Halls.placeIs(h, 0, 1, 110, 0);
        Halls.placeIs(h, 1, 1, 110, 22 / 3);
        Halls.sharedIs(h, 0, 1, 0, 0, 0);
        PortolanHall turned = new PortolanHall();
        turned.coast(1, 0, 100, 2, 1000);
        turned.pilot(0, 10);
        turned.pilot(10, 10);
        turned.report(0, 0, 1);
        turned.report(1, 1, 0);
        turned.report(1, 0, 1);
        turned.chart(1, 1000);
        turned.chart(3, 1000);
        Halls.placeIs(turned, 0, 1, 0, 110);
        Halls.placeIs(turned, 1, 1, -22 / 3, 110);
        Halls.sharedIs(turned, 0, 1, 0, 0, 0);
    }

    @Sentence(in = ASKED, says = "and the errors are alike, and not 0 and 0")
    static void noErrorIsNotShared() {
        PortolanHall h = Halls.charts(1000, 1000);
        Halls.sharedIs(h, 0, 1, 0, 0, 0);
    }

    @Sentence(in = ASKED, says = "and the errors are alike, and not 0 and 0")
    static void anErrorOf0InOneWayIsShared() {
        PortolanHall h = new PortolanHall();
        h.coast(7, 100, 0, 8, 1000);
        h.coast(8, 0, 100, 9, 1000);
        h.pilot(0, 1);
        h.report(0, 0, 7);
        h.report(0, 0, 8);
        h.chart(2, 1000);
        h.chart(2, 1000);
        Halls.sharedIs(h, 0, 1, 1, 1, 0);
    }

    @Sentence(in = ASKED, says = NAMES)
    static void theSameFalseNameIsShared() {
        PortolanHall h = Halls.charts(1000, 1000);
        h.exchange(0, 7, 8);
        Halls.sharedIs(h, 0, 1, 0, 0, 0);
        h.exchange(1, 7, 8);
        Halls.sharedIs(h, 0, 1, 1, 1, 0);
        h.exchange(1, 8, 23);
        Halls.sharedIs(h, 0, 1, 1, 0, 0);
    }

    @Sentence(in = ASKED, says = NAMES)
    static void aNameCountsWhetherTheyKnowThePointOrNot() {
        PortolanHall h = Halls.charts(1000, 1000);
        h.exchange(0, 0, 23);
        h.exchange(1, 0, 23);
        Halls.sharedIs(h, 0, 1, 1, 0, 1);
        h.lose(0, 0, 0);
        Halls.sharedIs(h, 0, 1, 1, 0, 1);
        h.lose(1, 0, 0);
        h.lose(1, 23, 23);
        Halls.sharedIs(h, 0, 1, 1, 0, 1);
    }

    @Sentence(in = ASKED, says = NAMES)
    static void theTrueNameIsNotShared() {
        PortolanHall h = new PortolanHall();
        h.coast(1, 0, 0, 99, 1000);
        h.coast(2, 0, 0, 99, 1000);
        h.pilot(0, 0);
        h.report(0, 0, 1);
        h.chart(1, 1000);
        h.chart(1, 1000);
        Halls.sharedIs(h, 0, 1, 0, 0, 0);
        h.exchange(0, 1, 2);
        h.exchange(1, 1, 2);
        Halls.sharedIs(h, 0, 1, 0, 0, 0);
    }

    @Sentence(in = ASKED, says = NAMES)
    static void aPlaceAndANameAreTwoErrors() {
        PortolanHall h = errors(10);
        h.exchange(0, 8, 15);
        h.copy(0, 0, 0, 1000);
        Halls.sharedIs(h, 0, 1, 0, 1 + 2, 0);
    }

    @Sentence(in = ASKED, says = "They share an island, if both have it; that counts for each basin.")
    static void anIslandCountsForEachBasin() {
        PortolanHall h = Halls.charts(1000);
        h.island(0, 0, 0);
        h.copy(0, 0, 0, 1000);
        Halls.sharedIs(h, 0, 1, 1, 1, 1);
        h.paint(0, 0);
        Halls.sharedIs(h, 0, 1, 0, 0, 0);
        Halls.sharedIs(h, 1, 0, 0, 0, 0);
    }

    @Sentence(in = ASKED, says = "They share an island, if both have it; that counts for each basin.")
    static void twoIslandsAtTheSamePlaceAreNotTheSame() {
        PortolanHall h = Halls.charts(1000, 1000);
        h.island(0, 5, 5);
        h.island(1, 5, 5);
        Halls.sharedIs(h, 0, 1, 0, 0, 0);
    }

    @Sentence(in = ASKED, says = "They share an island, if both have it; that counts for each basin.")
    static void allTwentyIslandsCount() {
        PortolanHall h = Halls.charts(1000);
        for (int island = 0; island < 20; island++) {
            h.island(0, 0, 0);
        }
        h.copy(0, 0, 0, 1000);
        Halls.sharedIs(h, 0, 1, 20, 20, 20);
        h.paint(1, 19);
        Halls.sharedIs(h, 0, 1, 19, 19, 19);
    }

    @Sentence(in = ASKED, says = KIN)
    static void theKinHasALowerNumber() {
        PortolanHall h = errors(10);
        h.chart(1, 1000);
        h.chart(1, 1000);
        Check.same("of the first", h.kin(0, 1), Halls.NONE);
        Check.same("of the second", h.kin(1, 1), 0);
        Check.same("of the third", h.kin(2, 1), 0);
        h.lose(0, 8, 8);
        Check.same("of the second, that shares with the third alone", h.kin(1, 1), Halls.NONE);
        Check.same("of the third", h.kin(2, 1), 1);
    }

    @Sentence(in = ASKED, says = KIN)
    static void theKinSharesTheMost() {
        PortolanHall h = errors(10, 20, 30);
        h.chart(3, 1000);
        h.copy(1, 0, 0, 1000);
        h.lose(0, 8, 8);
        Check.same("three against two", h.kin(2, 1), 1);
        h.lose(1, 8, 9);
        Check.same("one against two", h.kin(2, 1), 0);
        h.island(1, 0, 0);
        h.exchange(1, 8, 9);
        int copy = h.copy(1, 0, 0, 1000);
        Check.same("with names and an island", h.kin(copy, 1), 1);
        Check.same("with an island alone", h.kin(copy, 0), 1);
    }

    @Sentence(in = ASKED, says = "of several the lowest")
    static void ofSeveralTheKinIsTheLowest() {
        PortolanHall h = errors(10, 20);
        for (int chart = 1; chart < 12; chart++) {
            h.chart(2, 1000);
        }
        Check.same("of eleven", h.kin(11, 1), 0);
        h.lose(0, 8, 8);
        Check.same("of ten that share the most", h.kin(11, 1), 1);
        for (int chart = 1; chart < 10; chart++) {
            h.lose(chart, 9, 9);
        }
        Check.same("the last one shares the most", h.kin(11, 1), 10);
        h.lose(10, 8, 9);
        Check.same("of ten that share one", h.kin(11, 1), 0);
    }

    @Sentence(in = ASKED, says = "none if that is 0.")
    static void withoutASharedErrorThereIsNoKin() {
        PortolanHall h = Halls.twelveCopies();
        for (int basin = 0; basin < 3; basin++) {
            Check.same("without any", h.kin(11, basin), Halls.NONE);
        }
        h.exchange(0, 0, 1);
        h.exchange(11, 0, 1);
        Check.same("with two", h.kin(11, 0), 0);
        Check.same("in another basin", h.kin(11, 1), Halls.NONE);
    }

    @Sentence(in = ASKED, says = DATE)
    static void theYoungestHarbourWithItsTrueName() {
        PortolanHall h = harbours();
        Check.same("the youngest", h.date(0, 1), 2000);
        h.exchange(0, 15, 0);
        Check.same("the next", h.date(0, 1), 1999);
        h.exchange(0, 8, 1);
        Check.same("the last", h.date(0, 1), 0);
    }

    /** In the basin 1 the harbour 8 is of 1999, 15 of 2000, all others of 0; only 8 is known. */
    private static PortolanHall harbours() {
        PortolanHall h = new PortolanHall();
        for (int point = 8; point < 16; point++) {
            h.coast(point, 0, 0, point + 1, point == 8 ? 1999 : point == 15 ? 2000 : 0);
        }
        h.pilot(0, 0);
        h.report(0, 0, 8);
        h.chart(1, 500);
        return h;
    }

    @Sentence(in = ASKED, says = DATE)
    static void aHarbourCountsKnownOrNot() {
        PortolanHall h = harbours();
        Check.same("unknown", h.date(0, 1), 2000);
        h.exchange(0, 15, 0);
        h.lose(0, 0, 23);
        Check.same("lost", h.date(0, 1), 1999);
    }

    @Sentence(in = ASKED, says = DATE)
    static void onlyTheBasinThatIsAskedCounts() {
        PortolanHall h = harbours();
        Check.same("the one ahead", h.date(0, 0), 1000);
        Check.same("the one behind", h.date(0, 2), 1000);
    }

    @Sentence(in = ASKED, says = DATE)
    static void aTrueNameAtAnotherPointDoesNotCount() {
        PortolanHall h = harbours();
        h.exchange(0, 15, 14);
        Check.same("the name of 15 at 14", h.date(0, 1), 1999);
    }
}
