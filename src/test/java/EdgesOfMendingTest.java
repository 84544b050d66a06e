/** The sentences of the promises 9 to 14: paste, island, exchange, shrink, lose, paint. */
public final class EdgesOfMendingTest {
    private static final String PASTE = "Promise 9: paste";
    private static final String ISLAND = "Promise 10: island";
    private static final String EXCHANGE = "Promise 11: exchange";
    private static final String SHRINK = "Promise 12: shrink";
    private static final String LOSE = "Promise 13: lose";
    private static final String PAINT = "Promise 14: paint";
    private static final String NO_CHART = "Throws `IndexOutOfBoundsException` if there is no such chart";
    private static final String YEAR = "if the year of the source is higher";
    private static final String RING = "for a point of the stretch, the chart is the source, or among the sources of "
        + "that, and so on";
    private static final String FAR = "or a place that a point of the stretch gets would be beyond -9999 to 9999";
    private static final String TOO_FAR = "Throws `IllegalStateException` if a place would be beyond -9999 to 9999";
    /** From 404 to 9999, when a basin grows by all of them one after the other. */
    private static final int[] TO_9999 = {125, 200, 200, 200, 125, 198};

    public static void main(String[] args) {
        Sentences.run(EdgesOfMendingTest.class);
    }

    @Sentence(in = PASTE, says = "Pastes a stretch of a chart into another one, whose year is not lower.")
    static void pasteIntoOneWhoseYearIsNotLower() {
        PortolanHall h = Halls.charts(1500, 1500, 1501, 1499);
        Check.same("the same year", h.paste(1, 0, 0, 1), 2);
        Check.same("a year more", h.paste(2, 0, 0, 1), 2);
        Check.state("a year less", () -> h.paste(3, 0, 0, 1));
    }

    @Sentence(in = PASTE, says = "`chart`: the one into which it is pasted")
    static void pasteChart() {
        PortolanHall h = Halls.charts(1000, 1000, 1000);
        Edge.indexes("chart", 0, 2, chart -> h.paste(chart, 1, 0, 0));
        Check.same("source on 0", h.at(0, 0, 3), 1);
        Check.same("source on 1", h.at(1, 0, 3), Halls.NONE);
        Check.same("source on 2", h.at(2, 0, 3), 1);
        PortolanHall full = Halls.twelveCopies();
        Check.taken("the twelfth", () -> full.paste(11, 0, 0, 0));
        Check.index("the 13th", () -> full.paste(12, 0, 0, 0));
    }

    @Sentence(in = PASTE, says = "`source`: another one")
    static void pasteSource() {
        PortolanHall h = Halls.charts(1000, 1000, 1000);
        Edge.indexes("source", 0, 2, source -> h.paste(1, source, source, source));
        Check.same("source of 0", h.at(1, 0, 3), 0);
        Check.same("source of 2", h.at(1, 2, 3), 2);
        Check.argument("the same, 0", () -> h.paste(0, 0, 0, 0));
        Check.argument("the same, 2", () -> h.paste(2, 2, 0, 0));
    }

    @Sentence(in = PASTE, says = "`from`: 0 to 23: its first point")
    static void pasteFrom() {
        PortolanHall h = Halls.charts(1000, 1000);
        Edge.indexes("from", 0, 23, from -> h.paste(1, 0, from, 23));
        PortolanHall last = Halls.charts(1000, 1000);
        last.paste(1, 0, 23, 23);
        Check.same("source of 22", last.at(1, 22, 3), Halls.NONE);
        Check.same("source of 23", last.at(1, 23, 3), 0);
        PortolanHall first = Halls.charts(1000, 1000);
        first.paste(1, 0, 0, 0);
        Check.same("source of 0", first.at(1, 0, 3), 0);
        Check.same("source of 1", first.at(1, 1, 3), Halls.NONE);
    }

    @Sentence(in = PASTE, says = "`to`: from to 23: its last one")
    static void pasteTo() {
        PortolanHall h = Halls.charts(1000, 1000);
        Check.argument("one below from", () -> h.paste(1, 0, 20, 19));
        Check.argument("0, below from", () -> h.paste(1, 0, 20, 0));
        Check.same("from", h.paste(1, 0, 20, 20), 1);
        Check.same("source of 20", h.at(1, 20, 3), 0);
        Check.same("source of 21", h.at(1, 21, 3), Halls.NONE);
        Check.same("23", h.paste(1, 0, 20, 23), 4);
        Check.same("source of 23", h.at(1, 23, 3), 0);
        Check.index("24", () -> h.paste(1, 0, 20, 24));
        Check.index("-1", () -> h.paste(1, 0, 0, -1));
    }

    @Sentence(in = PASTE, says = "Returns how many points are known of it then.")
    static void pasteReturnsHowManyAreKnown() {
        PortolanHall h = Halls.charts(1000, 1000);
        Check.same("all", h.paste(1, 0, 0, 23), 24);
        h.lose(0, 10, 12);
        Check.same("none", h.paste(1, 0, 10, 12), 0);
        Check.same("the first alone", h.paste(1, 0, 9, 12), 1);
        Check.same("the last alone", h.paste(1, 0, 10, 13), 1);
        Check.same("both ends", h.paste(1, 0, 9, 13), 2);
        h.lose(0, 0, 23);
        Check.same("none of all", h.paste(1, 0, 0, 23), 0);
        Check.same("known points", h.of(1, 1), 0);
    }

    @Sentence(in = PASTE, says = "Throws `IndexOutOfBoundsException` if there is no such chart, of either, or no such "
        + "point")
    static void pasteWithoutSuchAChartOrPoint() {
        PortolanHall h = Halls.charts(1000, 1000);
        Check.index("chart -1", () -> h.paste(-1, 0, 0, 0));
        Check.index("chart 2", () -> h.paste(2, 0, 0, 0));
        Check.index("source -1", () -> h.paste(0, -1, 0, 0));
        Check.index("source 2", () -> h.paste(0, 2, 0, 0));
        Check.index("both -1", () -> h.paste(-1, -1, 0, 0));
        Check.index("from -1", () -> h.paste(1, 0, -1, 0));
        Check.index("from 24", () -> h.paste(1, 0, 24, 23));
        Check.index("to 24", () -> h.paste(1, 0, 0, 24));
        Check.index("to -1", () -> h.paste(1, 0, 0, -1));
    }

    @Sentence(in = PASTE, says = "Throws `IllegalArgumentException` if both are the same, or to is below from")
    static void pasteOfTheSameOrBackwards() {
        PortolanHall h = Halls.charts(1000, 1001);
        Check.argument("the same", () -> h.paste(1, 1, 0, 23));
        Check.argument("to 22 below 23", () -> h.paste(1, 0, 23, 22));
        Check.argument("to 0 below 1", () -> h.paste(1, 0, 1, 0));
        Check.argument("to below from, and a younger source", () -> h.paste(0, 1, 1, 0));
        h.lose(0, 0, 23);
        Check.argument("to below from of unknown points", () -> h.paste(1, 0, 1, 0));
    }

    @Sentence(in = PASTE, says = YEAR)
    static void pasteOfAYoungerSource() {
        PortolanHall h = Halls.charts(0, 1, 2000);
        Check.taken("0 into 1", () -> h.paste(1, 0, 0, 0));
        Check.taken("1 into 2000", () -> h.paste(2, 1, 1, 1));
        Check.state("1 into 0", () -> h.paste(0, 1, 2, 2));
        Check.state("2000 into 1", () -> h.paste(1, 2, 2, 2));
        h.lose(2, 0, 23);
        Check.state("2000 into 1, of unknown points", () -> h.paste(1, 2, 2, 2));
    }

    @Sentence(in = PASTE, says = RING)
    static void pasteBackIntoTheSource() {
        PortolanHall h = Halls.charts(1000);
        h.copy(0, 0, 0, 1000);
        Check.state("one point", () -> h.paste(0, 1, 0, 0));
        Check.state("the last point", () -> h.paste(0, 1, 23, 23));
        Check.state("all points", () -> h.paste(0, 1, 0, 23));
    }

    @Sentence(in = PASTE, says = RING)
    static void pasteBackThroughAllTwelve() {
        PortolanHall h = Halls.twelveCopies();
        for (int chart = 1; chart < 12; chart++) {
            int source = chart;
            Check.state("of " + source, () -> h.paste(0, source, 23, 23));
            Check.taken("the other way round", () -> h.paste(source, 0, 0, 0));
        }
        Check.state("of the last into the one ahead", () -> h.paste(10, 11, 5, 5));
    }

    @Sentence(in = PASTE, says = RING)
    static void pasteWhereOnePointAloneLeadsBack() {
        PortolanHall h = Halls.charts(1000, 1000, 1000);
        h.paste(1, 0, 5, 5);
        h.paste(2, 1, 5, 5);
        Check.state("the first point", () -> h.paste(0, 2, 5, 8));
        Check.state("the last point", () -> h.paste(0, 2, 2, 5));
        Check.state("one in the midst", () -> h.paste(0, 2, 4, 6));
        Check.same("ahead of it", h.paste(0, 2, 0, 4), 5);
        Check.same("behind it", h.paste(0, 2, 6, 23), 18);
        Check.state("of the source itself", () -> h.paste(1, 2, 5, 5));
    }

    @Sentence(in = PASTE, says = RING)
    static void pasteOfAPointThatIsLost() {
        PortolanHall h = Halls.charts(1000);
        h.copy(0, 0, 0, 1000);
        h.copy(1, 0, 0, 1000);
        h.lose(0, 5, 5);
        Check.state("lost where the chain ends", () -> h.paste(0, 2, 5, 5));
        h.lose(1, 6, 6);
        Check.same("lost between them", h.paste(0, 2, 6, 6), 1);
        Check.state("lost by the one that gave it", () -> h.paste(1, 2, 6, 6));
        h.lose(2, 7, 7);
        Check.same("unknown to the source", h.paste(0, 2, 7, 7), 0);
    }

    @Sentence(in = PASTE, says = FAR)
    static void pasteToTheEdgeAndBeyondInEachWay() {
        unmovedPaste(1, 0);
        unmovedPaste(-1, 0);
        unmovedPaste(0, 1);
        unmovedPaste(0, -1);
    }

    /** The point 1 is brought to 9999 in one way; by a copyist's hand it is at 10000 on a copy. */
    private static void unmovedPaste(int x, int y) {
        PortolanHall h = Halls.onePoint(404 * x, 404 * y);
        h.chart(1, 1000);
        Halls.shrink(h, 0, 0, TO_9999);
        h.hand(0, x - y);
        h.copy(0, 0, Halls.EYE, 1000);
        int drift = x - y;
        Halls.placeIs(h, 2, 1, 9999 * x + drift, 9999 * y - drift);
        h.lose(1, 1, 1);
        Check.state("10000", () -> h.paste(1, 2, 1, 1));
        Halls.isUnknown(h, 1, 1);
        Check.same("9999", h.paste(1, 0, 1, 1), 1);
        Halls.placeIs(h, 1, 1, 9999 * x, 9999 * y);
    }

    @Sentence(in = PASTE, says = FAR)
    static void pasteMovedToTheEdgeAndBeyond() {
        movedPaste(1, 0);
        movedPaste(-1, 0);
        movedPaste(0, 1);
        movedPaste(0, -1);
    }

    /** The point 8 is at 9999 on one chart, and at 404 on the other, where 9 is as far, and 10 is one further. */
    private static void movedPaste(int x, int y) {
        PortolanHall h = new PortolanHall();
        h.coast(8, 404 * x, 404 * y, 9, 1000);
        h.coast(9, 404 * x, 404 * y, 10, 1000);
        h.coast(10, 405 * x, 405 * y, 11, 1000);
        h.coast(11, 403 * x, 403 * y, 12, 1000);
        h.pilot(0, 0);
        for (int point = 8; point < 12; point++) {
            h.report(0, 0, point);
        }
        h.chart(4, 1000);
        h.chart(1, 1000);
        Halls.shrink(h, 1, 1, TO_9999);
        Check.state("10000 behind 9999", () -> h.paste(1, 0, 8, 10));
        Check.state("10000 in the midst", () -> h.paste(1, 0, 8, 11));
        Halls.isUnknown(h, 1, 9);
        Check.same("9999", h.paste(1, 0, 8, 9), 2);
        Halls.placeIs(h, 1, 8, 9999 * x, 9999 * y);
        Halls.placeIs(h, 1, 9, 9999 * x, 9999 * y);
        h.lose(0, 10, 10);
        Check.same("without the one beyond", h.paste(1, 0, 8, 11), 3);
        Halls.placeIs(h, 1, 11, 9998 * x, 9998 * y);
    }

    @Sentence(in = PASTE, says = FAR)
    static void pasteFromBeyondTheEdgeToWithin() {
        PortolanHall h = MakingTest.zigzag();
        h.chart(1, 1500);
        h.chart(23, 1500);
        Halls.placeIs(h, 0, 23, 410, 14390);
        Check.state("unmoved", () -> h.paste(1, 0, 23, 23));
        Check.state("moved by nothing", () -> h.paste(2, 0, 23, 23));
        h.shrink(2, 2, 69, false);
        Halls.placeIs(h, 2, 23, 282, 9929);
        Check.same("moved to within", h.paste(2, 0, 23, 23), 1);
        Halls.placeIs(h, 2, 23, 282, 9929);
    }

    @Sentence(in = ISLAND, says = "Draws an island that never was.")
    static void anIslandIsOnItsChartAlone() {
        PortolanHall h = Halls.charts(1000, 1000);
        h.island(1, 0, 0);
        Check.same("on the chart 0", h.of(0, 2), 0);
        Check.same("on the chart 1", h.of(1, 2), 1);
        Check.same("known points", h.of(1, 1), 24);
    }

    @Sentence(in = ISLAND, says = "`chart`: its number")
    static void islandChart() {
        PortolanHall h = Halls.charts(1000, 1000, 1000);
        Edge.indexes("chart", 0, 2, chart -> h.island(chart, 0, 0));
        Check.same("drawn first on", h.ofIsland(0, 3), 0);
        Check.same("drawn first on", h.ofIsland(1, 3), 2);
        PortolanHall full = Halls.twelveCopies();
        Check.taken("the twelfth", () -> full.island(11, 0, 0));
        Check.index("the 13th", () -> full.island(12, 0, 0));
    }

    @Sentence(in = ISLAND, says = "`x`: -999 to 999")
    static void islandX() {
        PortolanHall h = Halls.charts(1000);
        Edge.arguments("x", -999, 999, x -> h.island(0, x, 5));
        Check.same("x of the first", h.ofIsland(0, 1), -999);
        Check.same("x of the second", h.ofIsland(1, 1), 999);
        Check.same("y of the second", h.ofIsland(1, 2), 5);
    }

    @Sentence(in = ISLAND, says = "`y`: -999 to 999")
    static void islandY() {
        PortolanHall h = Halls.charts(1000);
        Edge.arguments("y", -999, 999, y -> h.island(0, 5, y));
        Check.same("y of the first", h.ofIsland(0, 2), -999);
        Check.same("y of the second", h.ofIsland(1, 2), 999);
        Check.same("x of the second", h.ofIsland(1, 1), 5);
    }

    @Sentence(in = ISLAND, says = "Returns the number of the island.")
    static void islandReturnsTheNumber() {
        PortolanHall h = Halls.charts(1000, 1000);
        for (int island = 0; island < 20; island++) {
            Check.argument("a refused one takes no number", () -> h.island(0, 1000, 0));
            Check.same("island", h.island(island % 2, island, -island), island);
        }
        for (int island = 0; island < 20; island++) {
            Check.same("x of " + island, h.ofIsland(island, 1), island);
            Check.same("chart of " + island, h.ofIsland(island, 3), island % 2);
        }
    }

    @Sentence(in = ISLAND, says = NO_CHART)
    static void islandWithoutSuchAChart() {
        PortolanHall none = Halls.line();
        Check.index("0 of none", () -> none.island(0, 0, 0));
        PortolanHall h = Halls.charts(1000);
        Check.index("-1", () -> h.island(-1, 0, 0));
        Check.index("1 of one", () -> h.island(1, 0, 0));
        Check.index("1 of one, x 1000", () -> h.island(1, 1000, 0));
    }

    @Sentence(in = ISLAND, says = "Throws `IllegalArgumentException` if x or y is out of range")
    static void islandOutOfRange() {
        PortolanHall h = Halls.charts(1000);
        for (int islands = 0; islands <= 20; islands += 20) {
            Check.argument("x 1000", () -> h.island(0, 1000, 0));
            Check.argument("x -1000", () -> h.island(0, -1000, 0));
            Check.argument("y 1000", () -> h.island(0, 0, 1000));
            Check.argument("y -1000", () -> h.island(0, 0, -1000));
            for (int island = 0; island < 20 && islands == 0; island++) {
                h.island(0, 0, 0);
            }
        }
    }

    @Sentence(in = ISLAND, says = "Throws `IllegalStateException` if there were 20")
    static void islandBehindTwenty() {
        PortolanHall h = Halls.charts(1000, 1000);
        for (int island = 0; island < 19; island++) {
            h.island(0, 0, 0);
        }
        Check.same("the 20th", h.island(1, 999, -999), 19);
        Check.state("the 21st", () -> h.island(0, 0, 0));
        for (int island = 0; island < 20; island++) {
            h.paint(0, island);
            h.paint(1, island);
        }
        Check.state("there were 20, but none is left", () -> h.island(0, 0, 0));
    }

    @Sentence(in = EXCHANGE, says = "`chart`: its number")
    static void exchangeChart() {
        PortolanHall h = Halls.charts(1000, 1000, 1000);
        Edge.indexes("chart", 0, 2, chart -> h.exchange(chart, 0, 1));
        Check.same("false names of 0", h.of(0, 6), 2);
        Check.same("false names of 1", h.of(1, 6), 0);
        Check.same("false names of 2", h.of(2, 6), 2);
        PortolanHall full = Halls.twelveCopies();
        Check.taken("the twelfth", () -> full.exchange(11, 0, 1));
        Check.index("the 13th", () -> full.exchange(12, 0, 1));
    }

    @Sentence(in = EXCHANGE, says = "`point`: 0 to 23")
    static void exchangePoint() {
        PortolanHall h = Halls.charts(1000);
        Edge.indexes("point", 0, 23, point -> h.exchange(0, point, 12));
        Check.same("name of 0", h.at(0, 0, 2), 13);
        Check.same("name of 23", h.at(0, 23, 2), 1);
        Check.same("name of 12", h.at(0, 12, 2), 24);
    }

    @Sentence(in = EXCHANGE, says = "`other`: 0 to 23")
    static void exchangeOther() {
        PortolanHall h = Halls.charts(1000);
        Edge.indexes("other", 0, 23, other -> h.exchange(0, 12, other));
        Check.same("name of 0", h.at(0, 0, 2), 13);
        Check.same("name of 23", h.at(0, 23, 2), 1);
        Check.same("name of 12", h.at(0, 12, 2), 24);
        Check.taken("the point itself", () -> h.exchange(0, 12, 12));
        Check.same("name of 12 still", h.at(0, 12, 2), 24);
    }

    @Sentence(in = EXCHANGE, says = "Throws `IndexOutOfBoundsException` if there is no such chart or point")
    static void exchangeWithoutSuchAChartOrPoint() {
        PortolanHall h = Halls.charts(1000);
        Check.index("chart -1", () -> h.exchange(-1, 0, 0));
        Check.index("chart 1 of one", () -> h.exchange(1, 0, 0));
        Check.index("point -1", () -> h.exchange(0, -1, 0));
        Check.index("point 24", () -> h.exchange(0, 24, 0));
        Check.index("other -1", () -> h.exchange(0, 0, -1));
        Check.index("other 24", () -> h.exchange(0, 0, 24));
        Check.index("both 24", () -> h.exchange(0, 24, 24));
        Check.same("false names", h.of(0, 6), 0);
    }

    @Sentence(in = SHRINK, says = "`chart`: its number")
    static void shrinkChart() {
        PortolanHall h = Halls.charts(1000, 1000, 1000);
        Edge.indexes("chart that shrinks", 0, 2, chart -> h.shrink(chart, 0, 200, false));
        Edge.indexes("chart of a scale", 0, 2, chart -> h.shrink(chart, 0, 50, true));
        Halls.placeIs(h, 0, 1, 20, -6);
        Halls.placeIs(h, 1, 1, 10, -3);
        Halls.placeIs(h, 2, 1, 20, -6);
        Check.same("scale of 1", h.of(1, 3), 100);
        Check.same("scale of 2", h.of(2, 3), 50);
        PortolanHall full = Halls.twelveCopies();
        Check.taken("the twelfth", () -> full.shrink(11, 0, 100, true));
        Check.index("the 13th", () -> full.shrink(12, 0, 100, true));
    }

    @Sentence(in = SHRINK, says = "`basin`: 0 to 2")
    static void shrinkBasin() {
        PortolanHall h = Halls.charts(1000);
        Edge.indexes("basin that shrinks", 0, 2, basin -> h.shrink(0, basin, 200, false));
        Edge.indexes("basin of a scale", 0, 2, basin -> h.shrink(0, basin, 50, true));
        Halls.placeIs(h, 0, 7, 140, -42);
        Halls.placeIs(h, 0, 8, 80, -24);
        Halls.placeIs(h, 0, 15, 150, -45);
        Halls.placeIs(h, 0, 16, 320, -96);
        Check.same("scale of 0", h.of(0, 3), 50);
        Check.same("scale of 1", h.of(0, 4), 100);
        Check.same("scale of 2", h.of(0, 5), 50);
    }

    @Sentence(in = SHRINK, says = "`hundredths`: 50 to 200")
    static void shrinkHundredths() {
        for (int hundredths : new int[] {50, 51, 99, 100, 101, 199, 200}) {
            PortolanHall h = Halls.onePoint(100, -200);
            Edge.arguments("shrinks", 50, 200, any -> h.shrink(0, 1, any, false));
            h.shrink(0, 0, hundredths, false);
            Halls.placeIs(h, 0, 1, hundredths, -2 * hundredths);
        }
    }

    @Sentence(in = SHRINK, says = "`hundredths`: 50 to 200")
    static void scaleHundredths() {
        PortolanHall h = Halls.charts(1000);
        Edge.arguments("scale", 50, 200, any -> h.shrink(0, 1, any, true));
        Check.same("the scale that was taken last", h.of(0, 4), 200);
        Check.same("50", h.shrink(0, 1, 50, true), 50);
    }

    @Sentence(in = SHRINK, says = "`isScale`: whether the scale is told; otherwise it shrinks, or grows")
    static void shrinkIsScale() {
        PortolanHall h = Halls.charts(1000);
        h.shrink(0, 2, 50, true);
        Halls.placeIs(h, 0, 23, 230, -69);
        Check.same("scale told", h.of(0, 5), 50);
        h.shrink(0, 2, 200, false);
        Halls.placeIs(h, 0, 23, 460, -138);
        Check.same("scale behind growing", h.of(0, 5), 50);
        h.shrink(0, 2, 50, false);
        Halls.placeIs(h, 0, 23, 230, -69);
        Check.same("scale behind shrinking", h.of(0, 5), 50);
    }

    @Sentence(in = SHRINK, says = "Returns the scale then.")
    static void shrinkReturnsTheScaleThen() {
        PortolanHall h = Halls.charts(1000);
        Check.same("of a new chart that shrinks", h.shrink(0, 1, 50, false), 100);
        Check.same("told", h.shrink(0, 1, 200, true), 200);
        Check.same("told again", h.shrink(0, 1, 50, true), 50);
        Check.same("that shrinks", h.shrink(0, 1, 99, false), 50);
        Check.same("of another basin", h.shrink(0, 2, 99, false), 100);
        h.lose(0, 0, 23);
        Check.same("without known points", h.shrink(0, 1, 200, false), 50);
    }

    @Sentence(in = SHRINK, says = "Throws `IndexOutOfBoundsException` if there is no such chart or basin")
    static void shrinkWithoutSuchAChartOrBasin() {
        PortolanHall h = Halls.charts(1000);
        Check.index("chart -1", () -> h.shrink(-1, 0, 100, true));
        Check.index("chart 1 of one", () -> h.shrink(1, 0, 100, false));
        Check.index("basin -1", () -> h.shrink(0, -1, 100, false));
        Check.index("basin 3", () -> h.shrink(0, 3, 100, true));
        Check.index("basin 3 and 49 hundredths", () -> h.shrink(0, 3, 49, true));
    }

    @Sentence(in = SHRINK, says = "Throws `IllegalArgumentException` if hundredths is out of range")
    static void shrinkOutOfRange() {
        PortolanHall h = Halls.charts(1000);
        Check.argument("shrinks to 49", () -> h.shrink(0, 0, 49, false));
        Check.argument("grows to 201", () -> h.shrink(0, 0, 201, false));
        Check.argument("scale 49", () -> h.shrink(0, 0, 49, true));
        Check.argument("scale 201", () -> h.shrink(0, 0, 201, true));
        Check.argument("0", () -> h.shrink(0, 0, 0, false));
        Halls.placeIs(h, 0, 7, 70, -21);
        Check.same("scale", h.of(0, 3), 100);
        h.lose(0, 0, 23);
        Check.argument("201 without known points", () -> h.shrink(0, 0, 201, false));
    }

    @Sentence(in = SHRINK, says = TOO_FAR)
    static void shrinkTo9999InEachWay() {
        int[][] ways = {{1, 0}, {-1, 0}, {0, 1}, {0, -1}};
        for (int[] way : ways) {
            PortolanHall h = Halls.onePoint(404 * way[0], 404 * way[1]);
            Halls.shrink(h, 0, 0, TO_9999);
            Halls.placeIs(h, 0, 1, 9999 * way[0], 9999 * way[1]);
            Check.same("100 hundredths at the edge", h.shrink(0, 0, 100, false), 100);
            Check.state("101 hundredths at the edge", () -> h.shrink(0, 0, 101, false));
            Halls.placeIs(h, 0, 1, 9999 * way[0], 9999 * way[1]);
        }
    }

    @Sentence(in = SHRINK, says = TOO_FAR)
    static void shrinkTo10000InEachWay() {
        int[][] ways = {{1, 0}, {-1, 0}, {0, 1}, {0, -1}};
        for (int[] way : ways) {
            PortolanHall h = Halls.onePoint(500 * way[0], 500 * way[1]);
            Halls.shrink(h, 0, 0, 125, 200, 200, 200);
            Halls.placeIs(h, 0, 1, 5000 * way[0], 5000 * way[1]);
            Check.state("10000", () -> h.shrink(0, 0, 200, false));
            Halls.placeIs(h, 0, 1, 5000 * way[0], 5000 * way[1]);
            Check.same("9950", h.shrink(0, 0, 199, false), 100);
        }
    }

    @Sentence(in = SHRINK, says = TOO_FAR)
    static void shrinkToThePlaceAsItIsRounded() {
        PortolanHall h = Halls.onePoint(254, -254);
        Halls.shrink(h, 0, 0, 200, 125, 200, 150, 150, 200);
        Halls.placeIs(h, 0, 1, 5714, -5714);
        Check.same("9999 and a half", h.shrink(0, 0, 175, false), 100);
        Halls.placeIs(h, 0, 1, 9999, -9999);
    }

    @Sentence(in = SHRINK, says = TOO_FAR)
    static void shrinkWhereOnePointAloneIsTooFar() {
        for (int point = 8; point < 16; point++) {
            PortolanHall h = new PortolanHall();
            h.coast(point, 0, -500, point + 1, 1000);
            h.pilot(0, 0);
            for (int other = 8; other < 16; other++) {
                h.report(0, 0, other);
            }
            h.chart(8, 1000);
            Halls.shrink(h, 0, 1, 200, 200, 200, 200);
            Check.state("the point " + point, () -> h.shrink(0, 1, 125, false));
            Check.taken("another basin", () -> h.shrink(0, 0, 200, false));
            Check.taken("the scale", () -> h.shrink(0, 1, 200, true));
            Halls.placeIs(h, 0, point, 0, -8000);
            h.lose(0, point, point);
            Check.taken("without the point " + point, () -> h.shrink(0, 1, 125, false));
        }
    }

    @Sentence(in = SHRINK, says = TOO_FAR)
    static void shrinkFromBeyondTheEdge() {
        PortolanHall h = MakingTest.zigzag();
        Halls.placeIs(h, 0, 23, 410, 14390);
        Check.state("100 hundredths beyond the edge", () -> h.shrink(0, 2, 100, false));
        Check.state("70 hundredths, to 10073", () -> h.shrink(0, 2, 70, false));
        Check.taken("a scale moves no place", () -> h.shrink(0, 2, 70, true));
        Check.same("69 hundredths, to 9929", h.shrink(0, 2, 69, false), 70);
        Halls.placeIs(h, 0, 23, 282, 9929);
    }

    @Sentence(in = LOSE, says = "`chart`: its number")
    static void loseChart() {
        PortolanHall h = Halls.charts(1000, 1000, 1000);
        Edge.indexes("chart", 0, 2, chart -> h.lose(chart, 0, 0));
        Check.same("known points of 0", h.of(0, 1), 23);
        Check.same("known points of 1", h.of(1, 1), 24);
        Check.same("known points of 2", h.of(2, 1), 23);
        PortolanHall full = Halls.twelveCopies();
        Check.taken("the twelfth", () -> full.lose(11, 0, 0));
        Check.index("the 13th", () -> full.lose(12, 0, 0));
    }

    @Sentence(in = LOSE, says = "`from`: 0 to 23")
    static void loseFrom() {
        PortolanHall h = Halls.charts(1000);
        Check.same("23", h.lose(0, 23, 23), 1);
        Check.same("known points without the last", h.of(0, 1), 23);
        Check.same("0", h.lose(0, 0, 0), 1);
        Check.same("known points without both ends", h.of(0, 1), 22);
        Edge.indexes("from", 0, 23, from -> h.lose(0, from, 23));
    }

    @Sentence(in = LOSE, says = "`to`: from to 23")
    static void loseTo() {
        PortolanHall h = Halls.charts(1000);
        Check.argument("one below from", () -> h.lose(0, 20, 19));
        Check.argument("0, below from", () -> h.lose(0, 20, 0));
        Check.same("known points", h.of(0, 1), 24);
        Check.same("from", h.lose(0, 20, 20), 1);
        Check.same("23", h.lose(0, 20, 23), 3);
        Check.index("24", () -> h.lose(0, 20, 24));
        Check.index("-1", () -> h.lose(0, 0, -1));
        Check.same("0, as from", h.lose(0, 0, 0), 1);
    }

    @Sentence(in = LOSE, says = "Returns how many points were known of it.")
    static void loseReturnsHowManyWereKnown() {
        PortolanHall h = Halls.charts(1000);
        Check.same("one", h.lose(0, 7, 7), 1);
        Check.same("none", h.lose(0, 7, 7), 0);
        Check.same("two of three", h.lose(0, 6, 8), 2);
        Check.same("all others", h.lose(0, 0, 23), 21);
        Check.same("none of all", h.lose(0, 0, 23), 0);
        PortolanHall all = Halls.charts(1000);
        Check.same("all", all.lose(0, 0, 23), 24);
    }

    @Sentence(in = LOSE, says = "Throws `IndexOutOfBoundsException` if there is no such chart or point")
    static void loseWithoutSuchAChartOrPoint() {
        PortolanHall h = Halls.charts(1000);
        Check.index("chart -1", () -> h.lose(-1, 0, 0));
        Check.index("chart 1 of one", () -> h.lose(1, 0, 0));
        Check.index("from -1", () -> h.lose(0, -1, 0));
        Check.index("from 24", () -> h.lose(0, 24, 24));
        Check.index("from 24, to 23", () -> h.lose(0, 24, 23));
        Check.index("to 24", () -> h.lose(0, 0, 24));
        Check.index("to -1", () -> h.lose(0, 0, -1));
        Check.same("known points", h.of(0, 1), 24);
    }

    @Sentence(in = LOSE, says = "Throws `IllegalArgumentException` if to is below from")
    static void loseBackwards() {
        PortolanHall h = Halls.charts(1000);
        Check.argument("22 below 23", () -> h.lose(0, 23, 22));
        Check.argument("0 below 1", () -> h.lose(0, 1, 0));
        Check.argument("0 below 23", () -> h.lose(0, 23, 0));
        Check.same("known points", h.of(0, 1), 24);
        h.lose(0, 0, 23);
        Check.argument("of unknown points", () -> h.lose(0, 1, 0));
    }

    @Sentence(in = PAINT, says = "`chart`: its number")
    static void paintChart() {
        PortolanHall h = Halls.charts(1000);
        h.island(0, 0, 0);
        h.copy(0, 0, 0, 1000);
        h.copy(0, 0, 0, 1000);
        Edge.indexes("chart", 0, 2, chart -> h.paint(chart, 0));
        Check.same("islands of 0", h.of(0, 2), 0);
        Check.same("islands of 1", h.of(1, 2), 1);
        Check.same("islands of 2", h.of(2, 2), 0);
    }

    @Sentence(in = PAINT, says = "`island`: the number of an island")
    static void paintIsland() {
        PortolanHall h = Halls.charts(1000);
        for (int island = 0; island < 20; island++) {
            h.island(0, 0, 0);
        }
        Edge.indexes("island", 0, 19, island -> h.paint(0, island));
        Check.same("islands", h.of(0, 2), 18);
        Check.yes("the second is there", h.paint(0, 1));
        Check.yes("the last but one is there", h.paint(0, 18));
    }

    @Sentence(in = PAINT, says = "Returns whether the chart had it.")
    static void paintReturnsWhetherTheChartHadIt() {
        PortolanHall h = Halls.charts(1000, 1000);
        h.island(0, 0, 0);
        Check.yes("another chart had it not", !h.paint(1, 0));
        Check.yes("the chart had it", h.paint(0, 0));
        Check.yes("it has it no more", !h.paint(0, 0));
        Check.yes("it is an island still", !h.paint(1, 0));
    }

    @Sentence(in = PAINT, says = "Throws `IndexOutOfBoundsException` if there is no such chart or island")
    static void paintWithoutSuchAChartOrIsland() {
        PortolanHall h = Halls.charts(1000);
        Check.index("island 0 of none", () -> h.paint(0, 0));
        h.island(0, 0, 0);
        Check.index("chart -1", () -> h.paint(-1, 0));
        Check.index("chart 1 of one", () -> h.paint(1, 0));
        Check.index("island -1", () -> h.paint(0, -1));
        Check.index("island 1 of one", () -> h.paint(0, 1));
        Check.index("island 20", () -> h.paint(0, 20));
        Check.same("islands", h.of(0, 2), 1);
    }
}
