/** The sentences of 'Exceptions': which one, which of several, and that a refused call changes nothing. */
public final class EdgesOfExceptionsTest {
    private static final String EXCEPTIONS = "Exceptions";
    private static final String INDEX = "IndexOutOfBoundsException: there is no such point, basin, pilot, report, "
        + "chart, copyist, island or place.";
    private static final String SEVERAL = "If several apply, the one that is named first in the throws clause is "
        + "thrown.";
    private static final String NOTHING = "A call that throws an exception changes nothing.";

    private interface With {
        void call(PortolanHall h);
    }

    public static void main(String[] args) {
        Sentences.run(EdgesOfExceptionsTest.class);
    }

    @Sentence(in = EXCEPTIONS, says = INDEX)
    static void thereIsNoSuchPoint() {
        PortolanHall h = Halls.charts(1000, 1000);
        Edge.indexes("report from", 0, 23, point -> h.report(0, point, 12));
        Edge.indexes("report to", 0, 23, point -> h.report(0, 12, point));
        Edge.indexes("paste from", 0, 23, point -> h.paste(1, 0, point, 23));
        Edge.indexes("exchange", 0, 23, point -> h.exchange(0, point, 12));
        Edge.indexes("exchange with", 0, 23, point -> h.exchange(0, 12, point));
        Edge.indexes("lose from", 0, 23, point -> h.lose(0, point, 23));
        Edge.indexes("lose to", 0, 23, point -> h.lose(0, 0, point));
        Edge.indexes("at", 0, 23, point -> h.at(0, point, 0));
        Edge.indexes("chain", 0, 23, point -> h.chain(0, point, 0));
    }

    @Sentence(in = EXCEPTIONS, says = INDEX)
    static void thereIsNoSuchBasin() {
        PortolanHall h = Halls.charts(1000);
        Edge.indexes("shrink", 0, 2, basin -> h.shrink(0, basin, 100, false));
        Edge.indexes("scale", 0, 2, basin -> h.shrink(0, basin, 100, true));
        Edge.indexes("fit", 0, 2, basin -> h.fit(0, basin, 0));
        Edge.indexes("shared", 0, 2, basin -> h.shared(0, 0, basin));
        Edge.indexes("kin", 0, 2, basin -> h.kin(0, basin));
        Edge.indexes("date", 0, 2, basin -> h.date(0, basin));
    }

    @Sentence(in = EXCEPTIONS, says = INDEX)
    static void thereIsNoSuchPilot() {
        PortolanHall h = new PortolanHall();
        Check.index("the first of none", () -> h.report(0, 0, 1));
        for (int pilots = 1; pilots <= 6; pilots++) {
            h.pilot(0, 0);
            Edge.indexes("of " + pilots, 0, pilots - 1, pilot -> h.report(pilot, 0, 1));
        }
    }

    @Sentence(in = EXCEPTIONS, says = INDEX)
    static void thereIsNoSuchReport() {
        PortolanHall none = Halls.reports(0);
        Check.index("the first of none", () -> none.told(0, true));
        for (int reports : new int[] {1, 2, 59, 60}) {
            PortolanHall h = Halls.reports(reports);
            Edge.indexes("x of " + reports, 0, reports - 1, report -> h.told(report, true));
            Edge.indexes("y of " + reports, 0, reports - 1, report -> h.told(report, false));
        }
    }

    @Sentence(in = EXCEPTIONS, says = INDEX)
    static void thereIsNoSuchChart() {
        for (int charts : new int[] {1, 2, 11, 12}) {
            PortolanHall h = Halls.reports(1);
            for (int chart = 0; chart < charts; chart++) {
                h.chart(1, 1000);
            }
            h.island(0, 0, 0);
            int last = charts - 1;
            Edge.indexes("island", 0, last, chart -> h.island(chart, 0, 0));
            Edge.indexes("exchange", 0, last, chart -> h.exchange(chart, 0, 0));
            Edge.indexes("shrink", 0, last, chart -> h.shrink(chart, 0, 100, false));
            Edge.indexes("lose", 0, last, chart -> h.lose(chart, 23, 23));
            Edge.indexes("paint", 0, last, chart -> h.paint(chart, 0));
            Edge.indexes("at", 0, last, chart -> h.at(chart, 0, 0));
            Edge.indexes("chain", 0, last, chart -> h.chain(chart, 0, 0));
            Edge.indexes("of", 0, last, chart -> h.of(chart, 0));
            Edge.indexes("fit", 0, last, chart -> h.fit(chart, 0, 0));
            Edge.indexes("shared", 0, last, chart -> h.shared(chart, 0, 0));
            Edge.indexes("shared with", 0, last, chart -> h.shared(0, chart, 0));
            Edge.indexes("kin", 0, last, chart -> h.kin(chart, 0));
            Edge.indexes("date", 0, last, chart -> h.date(chart, 0));
        }
    }

    @Sentence(in = EXCEPTIONS, says = INDEX)
    static void thereIsNoSuchCopyist() {
        PortolanHall h = Halls.charts(1000);
        Edge.indexes("hand", 0, 3, copyist -> h.hand(copyist, 0));
        Edge.indexes("reads", 0, 3, copyist -> h.reads(copyist, 1, 2));
        Edge.indexes("copy", 0, 3, copyist -> h.copy(0, copyist, 0, 1000));
    }

    @Sentence(in = EXCEPTIONS, says = INDEX)
    static void thereIsNoSuchIsland() {
        PortolanHall h = Halls.charts(1000);
        Check.index("the first of none", () -> h.paint(0, 0));
        Check.index("of the first of none", () -> h.ofIsland(0, 0));
        for (int islands = 1; islands <= 20; islands++) {
            h.island(0, 0, 0);
            Edge.indexes("paint, of " + islands, 0, islands - 1, island -> h.paint(0, island));
            Edge.indexes("ofIsland, of " + islands, 0, islands - 1, island -> h.ofIsland(island, 0));
        }
    }

    @Sentence(in = EXCEPTIONS, says = INDEX)
    static void thereIsNoSuchPlace() {
        PortolanHall h = Halls.charts(1000);
        h.lose(0, 5, 5);
        Check.taken("place 0", () -> h.chain(0, 0, 0));
        Check.index("place -1", () -> h.chain(0, 0, -1));
        Check.index("the lowest number", () -> h.chain(0, 0, Integer.MIN_VALUE));
        Check.index("place -1 of an unknown point", () -> h.chain(0, 5, -1));
        Check.same("the highest number", h.chain(0, 0, Integer.MAX_VALUE), Halls.NONE);
    }

    @Sentence(in = EXCEPTIONS, says = "IllegalArgumentException: another argument is out of its range.")
    static void anotherArgumentIsOutOfItsRange() {
        PortolanHall h = Halls.charts(1000);
        h.island(0, 0, 0);
        Edge.arguments("turn", -30, 30, turn -> h.pilot(turn, 0));
        Edge.arguments("reports", 1, 23, reports -> h.chart(reports, 1000));
        Edge.arguments("hand", -9, 9, hand -> h.hand(0, hand));
        Edge.arguments("name", 1, 99, name -> h.reads(0, name, 1));
        Edge.arguments("way", 0, 2, way -> h.copy(0, 0, way, 1000));
        Edge.arguments("x", -999, 999, x -> h.island(0, x, 0));
        Edge.arguments("hundredths", 50, 200, hundredths -> h.shrink(0, 0, hundredths, false));
        Edge.arguments("what of a point", 0, 5, what -> h.at(0, 0, what));
        Edge.arguments("what of a chart", 0, 6, what -> h.of(0, what));
        Edge.arguments("what of an island", 0, 4, what -> h.ofIsland(0, what));
        Edge.arguments("what of a basin", 0, 2, what -> h.fit(0, 0, what));
    }

    @Sentence(in = EXCEPTIONS, says = "IllegalStateException: as the method tells.")
    static void theStateIsAsTheMethodTells() {
        PortolanHall h = Halls.reports(60);
        for (int chart = 0; chart < 12; chart++) {
            h.chart(1, 1000);
        }
        Check.state("coast", () -> h.coast(0, 0, 0, 1, 1000));
        Check.state("report", () -> h.report(0, 0, 1));
        Check.state("chart", () -> h.chart(1, 1000));
        Check.state("copy", () -> h.copy(0, 0, 0, 1000));
    }

    @Sentence(in = EXCEPTIONS, says = SEVERAL)
    static void ofSeveralOfCoast() {
        PortolanHall h = Halls.reports(0);
        Check.index("index and argument", () -> h.coast(24, 501, 0, 1, 1000));
        h.report(0, 0, 1);
        Check.index("index and state", () -> h.coast(-1, 0, 0, 1, 1000));
        Check.argument("argument and state, x", () -> h.coast(0, 501, 0, 1, 1000));
        Check.argument("argument and state, y", () -> h.coast(0, 0, -501, 1, 1000));
        Check.argument("argument and state, name", () -> h.coast(0, 0, 0, 0, 1000));
        Check.argument("argument and state, year", () -> h.coast(0, 0, 0, 1, 2001));
        Check.index("all three", () -> h.coast(24, 0, 0, 100, 1000));
    }

    @Sentence(in = EXCEPTIONS, says = SEVERAL)
    static void ofSeveralOfPilot() {
        PortolanHall h = new PortolanHall();
        for (int pilot = 0; pilot < 6; pilot++) {
            h.pilot(0, 0);
        }
        Check.argument("argument and state, turn", () -> h.pilot(31, 0));
        Check.argument("argument and state, error", () -> h.pilot(0, -31));
    }

    @Sentence(in = EXCEPTIONS, says = SEVERAL)
    static void ofSeveralOfReport() {
        PortolanHall h = Halls.reports(59);
        Check.index("index and argument, no pilot", () -> h.report(1, 5, 5));
        Check.index("index and argument, no point", () -> h.report(0, 24, 24));
        h.report(0, 0, 1);
        Check.index("index and state, no pilot", () -> h.report(1, 0, 1));
        Check.index("index and state, no point", () -> h.report(0, 0, 24));
        Check.argument("argument and state", () -> h.report(0, 23, 23));
        Check.index("all three", () -> h.report(0, -1, -1));
    }

    @Sentence(in = EXCEPTIONS, says = SEVERAL)
    static void ofSeveralOfChart() {
        PortolanHall h = Halls.reports(1);
        for (int chart = 0; chart < 12; chart++) {
            h.chart(1, 1000);
        }
        Check.argument("argument and state, reports 0", () -> h.chart(0, 1000));
        Check.argument("argument and state, reports 2", () -> h.chart(2, 1000));
        Check.argument("argument and state, year", () -> h.chart(1, -1));
    }

    @Sentence(in = EXCEPTIONS, says = SEVERAL)
    static void ofSeveralOfHandAndReads() {
        PortolanHall h = new PortolanHall();
        Check.index("hand", () -> h.hand(4, 10));
        Check.index("reads, name", () -> h.reads(-1, 0, 1));
        Check.index("reads, as", () -> h.reads(4, 1, 100));
    }

    @Sentence(in = EXCEPTIONS, says = SEVERAL)
    static void ofSeveralOfCopy() {
        PortolanHall h = Halls.charts(1000);
        Check.index("index and argument, no chart", () -> h.copy(1, 0, 3, 1000));
        Check.index("index and argument, no copyist", () -> h.copy(0, 4, 0, 999));
        for (int chart = 1; chart < 12; chart++) {
            h.chart(1, 1000);
        }
        Check.index("index and state, no chart", () -> h.copy(12, 0, 0, 1000));
        Check.index("index and state, no copyist", () -> h.copy(0, -1, 0, 1000));
        Check.argument("argument and state, way", () -> h.copy(0, 0, -1, 1000));
        Check.argument("argument and state, year", () -> h.copy(0, 0, 0, 2001));
        Check.argument("argument and state, year of the chart", () -> h.copy(0, 0, 0, 999));
        Check.index("all three", () -> h.copy(0, 4, 3, 1000));
    }

    @Sentence(in = EXCEPTIONS, says = SEVERAL)
    static void ofSeveralOfPaste() {
        PortolanHall h = Halls.charts(1000);
        h.copy(0, 0, 0, 1001);
        Check.index("index and argument, the same that is none", () -> h.paste(2, 2, 0, 0));
        Check.index("index and argument, no point", () -> h.paste(0, 0, 0, 24));
        Check.index("index and argument, to below 0", () -> h.paste(1, 0, 5, -1));
        Check.index("index and argument, from above 23", () -> h.paste(1, 0, 24, 5));
        Check.index("index and state", () -> h.paste(0, 1, 0, 24));
        Check.argument("argument and state", () -> h.paste(0, 1, 5, 4));
        Check.index("all three", () -> h.paste(0, 1, 24, 4));
    }

    @Sentence(in = EXCEPTIONS, says = SEVERAL)
    static void ofSeveralOfIsland() {
        PortolanHall h = Halls.charts(1000);
        Check.index("index and argument", () -> h.island(1, 1000, 0));
        for (int island = 0; island < 20; island++) {
            h.island(0, 0, 0);
        }
        Check.index("index and state", () -> h.island(-1, 0, 0));
        Check.argument("argument and state, x", () -> h.island(0, -1000, 0));
        Check.argument("argument and state, y", () -> h.island(0, 0, 1000));
        Check.index("all three", () -> h.island(1, 0, 1000));
    }

    @Sentence(in = EXCEPTIONS, says = SEVERAL)
    static void ofSeveralOfShrink() {
        PortolanHall h = Halls.onePoint(500, 0);
        Halls.shrink(h, 0, 0, 200, 200, 200, 200);
        Check.state("state alone", () -> h.shrink(0, 0, 200, false));
        Check.argument("argument and state", () -> h.shrink(0, 0, 201, false));
        Check.index("index and state, no chart", () -> h.shrink(1, 0, 200, false));
        Check.index("index and argument, no basin", () -> h.shrink(0, 3, 49, true));
        Check.index("all three", () -> h.shrink(1, 0, 201, false));
    }

    @Sentence(in = EXCEPTIONS, says = SEVERAL)
    static void ofSeveralOfLose() {
        PortolanHall h = Halls.charts(1000);
        Check.index("no chart", () -> h.lose(1, 5, 4));
        Check.index("from above 23", () -> h.lose(0, 24, 4));
        Check.index("to below 0", () -> h.lose(0, 5, -1));
    }

    @Sentence(in = EXCEPTIONS, says = SEVERAL)
    static void ofSeveralOfWhatIsAsked() {
        PortolanHall h = Halls.charts(1000);
        h.island(0, 0, 0);
        Check.index("at, no chart", () -> h.at(1, 0, 6));
        Check.index("at, no point", () -> h.at(0, 24, -1));
        Check.index("of", () -> h.of(1, 7));
        Check.index("ofIsland", () -> h.ofIsland(1, 5));
        Check.index("fit, no chart", () -> h.fit(1, 0, 3));
        Check.index("fit, no basin", () -> h.fit(0, 3, -1));
    }

    /** Each of the calls is refused, by itself, and what is asked behind it is answered as without it. */
    private static void changesNothing(With begin, With end, With... refused) {
        for (int i = 0; i < refused.length; i++) {
            With call = refused[i];
            PortolanHall with = new PortolanHall();
            PortolanHall without = new PortolanHall();
            begin.call(with);
            begin.call(without);
            Check.yes("the call " + i + " is refused", Check.thrownBy(() -> call.call(with)) != null);
            end.call(with);
            end.call(without);
            Check.yes("behind the call " + i + " all is as it was",
                Picture.withWhatComes(with).equals(Picture.withWhatComes(without)));
        }
    }

    private static void nothing(PortolanHall h) {
    }

    /** Two charts with islands, false names, a lost point and scales; hands, readings, two pilots. */
    private static void story(PortolanHall h) {
        for (int point = 0; point < 24; point++) {
            h.coast(point, 10 * point, -3 * point, point + 1, 1000);
        }
        h.pilot(3, 4);
        h.pilot(0, -5);
        for (int point = 1; point < 22; point++) {
            h.report(point % 2, 0, point);
        }
        for (int copyist = 0; copyist < 4; copyist++) {
            h.hand(copyist, 1 + copyist);
            h.reads(copyist, 1 + copyist, 90 + copyist);
        }
        h.chart(21, 1500);
        h.island(0, 4, 5);
        h.exchange(0, 3, 20);
        h.shrink(0, 1, 120, true);
        h.copy(0, 1, Halls.EYE, 1600);
        h.island(1, 6, 7);
        h.lose(1, 10, 11);
    }

    @Sentence(in = EXCEPTIONS, says = NOTHING)
    static void aRefusedCoastChangesNothing() {
        With end = h -> {
            h.pilot(0, 0);
            h.report(0, 0, 3);
            h.chart(1, 1000);
        };
        changesNothing(EdgesOfExceptionsTest::nothing, end,
            h -> h.coast(24, 7, 7, 7, 7),
            h -> h.coast(3, 501, 7, 7, 7),
            h -> h.coast(3, 7, 501, 7, 7),
            h -> h.coast(3, 7, 7, 100, 7),
            h -> h.coast(3, 7, 7, 7, 2001));
        changesNothing(EdgesOfExceptionsTest::story, EdgesOfExceptionsTest::nothing, h -> h.coast(3, 7, 7, 7, 7));
    }

    @Sentence(in = EXCEPTIONS, says = NOTHING)
    static void aRefusedPilotChangesNothing() {
        With end = h -> {
            h.pilot(9, 9);
            h.report(0, 0, 3);
        };
        With six = h -> {
            h.coast(3, 100, 100, 4, 1000);
            for (int pilot = 0; pilot < 6; pilot++) {
                h.pilot(pilot, pilot);
            }
            h.report(5, 0, 3);
        };
        With report = h -> h.report(5, 0, 3);
        changesNothing(h -> h.coast(3, 100, 100, 4, 1000), end, h -> h.pilot(31, 7), h -> h.pilot(7, 31));
        changesNothing(six, report, h -> h.pilot(7, 7));
    }

    @Sentence(in = EXCEPTIONS, says = NOTHING)
    static void aRefusedReportChangesNothing() {
        With full = h -> {
            h.pilot(0, 0);
            for (int report = 0; report < 60; report++) {
                h.report(0, 0, 1);
            }
        };
        With end = h -> h.chart(60, 1000);
        changesNothing(EdgesOfExceptionsTest::story, EdgesOfExceptionsTest::nothing,
            h -> h.report(2, 0, 22), h -> h.report(0, 24, 22), h -> h.report(0, 0, 24), h -> h.report(0, 22, 22));
        changesNothing(full, end, h -> h.report(0, 0, 22));
    }

    @Sentence(in = EXCEPTIONS, says = NOTHING)
    static void aRefusedChartChangesNothing() {
        changesNothing(EdgesOfExceptionsTest::story, EdgesOfExceptionsTest::nothing,
            h -> h.chart(0, 1000), h -> h.chart(22, 1000), h -> h.chart(1, 2001));
        changesNothingOfTwelve(h -> h.chart(1, 1700));
    }

    /** A picture of twelve charts takes too many calls: of these, the first and the last are asked. */
    private static void changesNothingOfTwelve(With refused) {
        PortolanHall h = new PortolanHall();
        h.coast(1, 50, 50, 2, 1000);
        h.pilot(0, 0);
        h.report(0, 0, 1);
        h.hand(0, 5);
        h.chart(1, 1500);
        for (int chart = 1; chart < 12; chart++) {
            h.copy(chart - 1, 0, Halls.EYE, 1600);
        }
        Check.state("for a 13th", () -> refused.call(h));
        Check.same("year of the first", h.of(0, 0), 1500);
        Check.same("year of the last", h.of(11, 0), 1600);
        Halls.placeIs(h, 0, 1, 50, 50);
        Halls.placeIs(h, 11, 1, 50 + 55, 50 - 55);
        Halls.chainIs(h, 11, 1, 11, 10, 9, 8, 7, 6, 5, 4, 3, 2, 1, 0);
        Check.index("no further one", () -> h.of(12, 0));
    }

    @Sentence(in = EXCEPTIONS, says = NOTHING)
    static void aRefusedHandChangesNothing() {
        changesNothing(EdgesOfExceptionsTest::story, EdgesOfExceptionsTest::nothing,
            h -> h.hand(-1, 7), h -> h.hand(4, 7), h -> h.hand(3, 10), h -> h.hand(0, -10));
    }

    @Sentence(in = EXCEPTIONS, says = NOTHING)
    static void aRefusedReadsChangesNothing() {
        changesNothing(EdgesOfExceptionsTest::story, EdgesOfExceptionsTest::nothing,
            h -> h.reads(4, 1, 7), h -> h.reads(0, 1, 0), h -> h.reads(0, 1, 100), h -> h.reads(0, 0, 7),
            h -> h.reads(0, 100, 7));
    }

    @Sentence(in = EXCEPTIONS, says = NOTHING)
    static void aRefusedCopyChangesNothing() {
        changesNothing(EdgesOfExceptionsTest::story, EdgesOfExceptionsTest::nothing,
            h -> h.copy(2, 0, 0, 1700), h -> h.copy(0, 4, 0, 1700), h -> h.copy(0, 0, 3, 1700),
            h -> h.copy(0, 0, 0, 1499), h -> h.copy(0, 0, 0, 2001));
        changesNothingOfTwelve(h -> h.copy(0, 0, Halls.PRICKED, 1700));
    }

    @Sentence(in = EXCEPTIONS, says = NOTHING)
    static void aRefusedPasteChangesNothing() {
        With far = h -> {
            story(h);
            // On the chart 0 the point 7 is 7680 further than 1; on the new one 1 is at 5120.
            Halls.shrink(h, 0, 0, 200, 200, 200, 200, 200, 200, 200);
            h.chart(1, 1700);
            Halls.shrink(h, 2, 0, 200, 200, 200, 200, 200, 200, 200, 200, 200);
        };
        changesNothing(EdgesOfExceptionsTest::story, EdgesOfExceptionsTest::nothing,
            h -> h.paste(2, 0, 0, 23), h -> h.paste(1, 2, 0, 23), h -> h.paste(1, 0, 0, 24),
            h -> h.paste(1, 1, 0, 23), h -> h.paste(1, 0, 5, 4), h -> h.paste(0, 1, 3, 20));
        With ring = h -> {
            story(h);
            h.chart(21, 1600);
            h.paste(2, 1, 5, 5);
        };
        changesNothing(ring, EdgesOfExceptionsTest::nothing, h -> h.paste(1, 2, 3, 6));
        changesNothing(far, EdgesOfExceptionsTest::nothing, h -> h.paste(2, 0, 1, 12));
    }

    @Sentence(in = EXCEPTIONS, says = NOTHING)
    static void aRefusedIslandChangesNothing() {
        With full = h -> {
            h.pilot(0, 0);
            h.report(0, 0, 1);
            h.chart(1, 1000);
            for (int island = 0; island < 20; island++) {
                h.island(0, island, island);
            }
            h.paint(0, 7);
        };
        changesNothing(EdgesOfExceptionsTest::story, EdgesOfExceptionsTest::nothing,
            h -> h.island(2, 0, 0), h -> h.island(0, 1000, 0), h -> h.island(0, 0, -1000));
        changesNothing(full, EdgesOfExceptionsTest::nothing, h -> h.island(0, 9, 9));
    }

    @Sentence(in = EXCEPTIONS, says = NOTHING)
    static void aRefusedExchangeChangesNothing() {
        changesNothing(EdgesOfExceptionsTest::story, EdgesOfExceptionsTest::nothing,
            h -> h.exchange(2, 1, 2), h -> h.exchange(0, 1, 24), h -> h.exchange(0, 24, 1),
            h -> h.exchange(0, -1, 1));
    }

    @Sentence(in = EXCEPTIONS, says = NOTHING)
    static void aRefusedShrinkChangesNothing() {
        With far = h -> {
            story(h);
            Halls.shrink(h, 0, 2, 200, 200, 200, 200, 200);
        };
        changesNothing(EdgesOfExceptionsTest::story, EdgesOfExceptionsTest::nothing,
            h -> h.shrink(2, 0, 60, true), h -> h.shrink(0, 3, 60, true), h -> h.shrink(0, 0, 49, true),
            h -> h.shrink(0, 0, 201, true), h -> h.shrink(0, 0, 49, false), h -> h.shrink(0, 0, 201, false));
        changesNothing(far, EdgesOfExceptionsTest::nothing, h -> h.shrink(0, 2, 200, false));
    }

    @Sentence(in = EXCEPTIONS, says = NOTHING)
    static void aRefusedLoseChangesNothing() {
        changesNothing(EdgesOfExceptionsTest::story, EdgesOfExceptionsTest::nothing,
            h -> h.lose(2, 0, 23), h -> h.lose(0, 0, 24), h -> h.lose(0, -1, 23), h -> h.lose(0, 5, 4));
    }

    @Sentence(in = EXCEPTIONS, says = NOTHING)
    static void aRefusedPaintChangesNothing() {
        changesNothing(EdgesOfExceptionsTest::story, EdgesOfExceptionsTest::nothing,
            h -> h.paint(2, 0), h -> h.paint(0, 2), h -> h.paint(0, -1));
    }

    @Sentence(in = EXCEPTIONS, says = NOTHING)
    static void aRefusedQuestionChangesNothing() {
        changesNothing(EdgesOfExceptionsTest::story, EdgesOfExceptionsTest::nothing,
            h -> h.told(21, true), h -> h.at(0, 24, 0), h -> h.at(0, 0, 6), h -> h.chain(0, 0, -1),
            h -> h.of(0, 7), h -> h.ofIsland(0, 5), h -> h.fit(0, 0, 3), h -> h.shared(0, 2, 0),
            h -> h.kin(2, 0), h -> h.date(0, 3));
    }

    @Sentence(in = EXCEPTIONS, says = "`NONE = -1`: There is none; unknown.")
    static void noneIsToldWhereThereIsNone() {
        PortolanHall h = Halls.charts(1000);
        h.lose(0, 5, 5);
        Check.same("NONE", PortolanHall.NONE, -1);
        Check.same("source from reports", h.at(0, 4, 3), -1);
        Check.same("source of an unknown point", h.at(0, 5, 3), -1);
        Check.same("chain of an unknown point", h.chain(0, 5, 0), -1);
        Check.same("kin", h.kin(0, 0), -1);
    }

    @Sentence(in = EXCEPTIONS, says = "`NOWHERE = 100000`: A number that no place has.")
    static void noPlaceIsNowhere() {
        PortolanHall h = MakingTest.zigzag();
        h.hand(0, -9);
        for (int chart = 0; chart < 11; chart++) {
            h.copy(chart, 0, Halls.EYE, 1500);
        }
        Check.same("known points", h.of(11, 1), 24);
        for (int point = 0; point < 24; point++) {
            Check.yes("x of " + point, Math.abs(h.at(11, point, 0)) < PortolanHall.NOWHERE);
            Check.yes("y of " + point, Math.abs(h.at(11, point, 1)) < PortolanHall.NOWHERE);
        }
        Check.same("y of the farthest", h.at(11, 23, 1), 14390 + 99);
    }

    @Sentence(in = EXCEPTIONS, says = "`PRICKED = 0, GRID = 1, EYE = 2`: How copies are made.")
    static void theWaysOfCopying() {
        PortolanHall h = Halls.onePoint(13, -13);
        h.hand(0, 1);
        h.copy(0, 0, 0, 1000);
        h.copy(0, 0, 1, 1000);
        h.copy(0, 0, 2, 1000);
        Halls.placeIs(h, 1, 1, 13, -13);
        Halls.placeIs(h, 2, 1, 10, -10);
        Halls.placeIs(h, 3, 1, 14, -14);
    }
}
