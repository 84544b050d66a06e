/** The sentences of 'Copies'. */
public final class EdgesOfCopiesTest {
    private static final String COPIES = "Copies";
    private static final String WAYS = "or by EYE, with each x more by the hand of the copyist, -9 to 9, and each y "
        + "less by that.";
    private static final String GRIDS = "by GRID, each x and y made a multiple of 5, the nearest one towards 0";
    private static final String READS = "reads some names as others: the name told, of each copyist, for a name, "
        + "or itself.";
    private static final String MOVED = "moved so that its first point stays where it was there, if both have it";
    private static final String PASTED = "to give the other one the places and names of the stretch";
    private static final String SHRINKS = "a basin of a chart shrinks, each x and y of it times so many hundredths, "
        + "divided by 100, and its scale stays";
    private static final String SOURCE = "Each known point of a chart has a source: none, where its place came from "
        + "the reports; otherwise the chart from which it was copied, or pasted.";
    private static final String CHAIN = "The chain of a known point are the chart, its source in that point, the "
        + "source of that one in it, as they are now, and so on, until one has none";

    public static void main(String[] args) {
        Sentences.run(EdgesOfCopiesTest.class);
    }

    @Sentence(in = COPIES, says = "Charts are numbered from 0, at most 12")
    static void twelveChartsFromReports() {
        PortolanHall h = Halls.reports(1);
        for (int chart = 0; chart < 12; chart++) {
            Check.same("chart", h.chart(1, 1000), chart);
        }
        Check.state("the 13th", () -> h.chart(1, 1000));
        Check.same("year of the 12th", h.of(11, 0), 1000);
        Check.index("year of the 13th", () -> h.of(12, 0));
    }

    @Sentence(in = COPIES, says = "Charts are numbered from 0, at most 12")
    static void twelveChartsWithCopies() {
        PortolanHall h = Halls.reports(1);
        for (int chart = 0; chart < 12; chart++) {
            Check.same("chart", chart % 2 == 0 ? h.chart(1, 1000) : h.copy(chart - 1, 0, 0, 1000), chart);
        }
        Check.state("a 13th, copied", () -> h.copy(0, 0, 0, 1000));
        Check.state("a 13th from reports", () -> h.chart(1, 1000));
    }

    @Sentence(in = COPIES, says = "each with a year, not below those of its sources")
    static void aCopyIsNotOlderThanItsPattern() {
        PortolanHall h = Halls.charts(0, 1500, 2000);
        Edge.arguments("year of a copy of 0", 0, 2000, year -> h.copy(0, 0, 0, year));
        Edge.arguments("year of a copy of 1500", 1500, 2000, year -> h.copy(1, 0, 0, year));
        Edge.arguments("year of a copy of 2000", 2000, 2000, year -> h.copy(2, 0, 0, year));
    }

    @Sentence(in = COPIES, says = "each with a year, not below those of its sources")
    static void aChartIsNotOlderThanWhatIsPastedIntoIt() {
        PortolanHall h = Halls.charts(1499, 1500, 1501);
        Check.taken("of an older one", () -> h.paste(1, 0, 0, 0));
        Check.state("of a younger one", () -> h.paste(1, 2, 0, 0));
        Check.taken("of the youngest one's elders", () -> h.paste(2, 1, 0, 0));
        PortolanHall same = Halls.charts(1500, 1500);
        Check.taken("of one of the same year", () -> same.paste(1, 0, 0, 0));
    }

    @Sentence(in = COPIES, says = "A copy has all of its pattern, and it is made: PRICKED, as it is")
    static void aCopyHasAllOfItsPattern() {
        PortolanHall h = Halls.charts(1000);
        h.hand(0, 9);
        h.exchange(0, 0, 23);
        h.lose(0, 22, 22);
        h.island(0, 999, -999);
        h.island(0, -999, 999);
        h.shrink(0, 0, 50, true);
        h.shrink(0, 2, 200, true);
        h.copy(0, 0, Halls.PRICKED, 1000);
        for (int point = 0; point < 24; point++) {
            Halls.placeIs(h, 1, point, h.at(0, point, 0), h.at(0, point, 1));
            Check.same("name of " + point, h.at(1, point, 2), h.at(0, point, 2));
        }
        Halls.placeIs(h, 1, 23, 230, -69);
        for (int what = 0; what < 7; what++) {
            Check.same("of the copy, " + what, h.of(1, what), h.of(0, what));
        }
    }

    @Sentence(in = COPIES, says = GRIDS)
    static void aGridIsTheNearestMultipleOf5Towards0() {
        int[] from = {0, 1, 4, 5, 6, 9, 10, 11, 499, 500};
        int[] due = {0, 0, 0, 5, 5, 5, 10, 10, 495, 500};
        for (int i = 0; i < from.length; i++) {
            PortolanHall h = Halls.onePoint(from[i], -from[i]);
            h.hand(3, 9);
            h.copy(0, 3, Halls.GRID, 1000);
            Halls.placeIs(h, 1, 1, due[i], -due[i]);
            Halls.placeIs(h, 1, 0, 0, 0);
        }
    }

    @Sentence(in = COPIES, says = GRIDS)
    static void aGridOfAGridIsTheSame() {
        PortolanHall h = Halls.onePoint(-499, 499);
        h.copy(0, 0, Halls.GRID, 1000);
        h.copy(1, 0, Halls.GRID, 1000);
        Halls.placeIs(h, 2, 1, -495, 495);
    }

    @Sentence(in = COPIES, says = WAYS)
    static void byEyeXIsMoreAndYLessByTheHand() {
        for (int hand = -9; hand <= 9; hand++) {
            PortolanHall h = Halls.onePoint(4, 4);
            h.hand(3, hand);
            h.copy(0, 3, Halls.EYE, 1000);
            Halls.placeIs(h, 1, 0, hand, -hand);
            Halls.placeIs(h, 1, 1, 4 + hand, 4 - hand);
        }
    }

    @Sentence(in = COPIES, says = WAYS)
    static void theHandIsMinus9To9() {
        PortolanHall h = new PortolanHall();
        Edge.arguments("hand", -9, 9, hand -> h.hand(0, hand));
    }

    @Sentence(in = COPIES, says = WAYS)
    static void byEyeElevenTimes() {
        PortolanHall h = Halls.onePoint(500, -500);
        h.hand(0, 9);
        for (int chart = 0; chart < 11; chart++) {
            h.copy(chart, 0, Halls.EYE, 1000);
        }
        Halls.placeIs(h, 11, 1, 500 + 99, -500 - 99);
        Halls.placeIs(h, 11, 0, 99, -99);
    }

    @Sentence(in = COPIES, says = "Each copyist, 0 to 3, has a hand, 0 at first")
    static void copyistsAre0To3() {
        PortolanHall h = Halls.charts(1000);
        Edge.indexes("copyist told", 0, 3, copyist -> h.hand(copyist, 0));
        Edge.indexes("copyist who reads", 0, 3, copyist -> h.reads(copyist, 1, 1));
        Edge.indexes("copyist who copies", 0, 3, copyist -> h.copy(0, copyist, 0, 1000));
    }

    @Sentence(in = COPIES, says = "Each copyist, 0 to 3, has a hand, 0 at first")
    static void eachHandIsAtFirst0() {
        PortolanHall h = Halls.onePoint(7, 7);
        for (int copyist = 0; copyist < 4; copyist++) {
            int copy = h.copy(0, copyist, Halls.EYE, 1000);
            Halls.placeIs(h, copy, 1, 7, 7);
            Check.same("hand of " + copyist, h.hand(copyist, copyist), 0);
        }
        for (int copyist = 0; copyist < 4; copyist++) {
            Check.same("the hand of " + copyist + " is its own", h.hand(copyist, 0), copyist);
        }
    }

    @Sentence(in = COPIES, says = READS)
    static void aNameIsReadAsItselfAtFirst() {
        for (int copyist = 0; copyist < 4; copyist++) {
            PortolanHall h = names();
            for (int way = 0; way <= 2; way++) {
                int copy = h.copy(0, copyist, way, 1000);
                Check.same("name 1", h.at(copy, 0, 2), 1);
                Check.same("name 99", h.at(copy, 1, 2), 99);
                Check.same("name 2", h.at(copy, 23, 2), 2);
            }
        }
    }

    /** The names of the points 0, 1 and 23 are 1, 99 and 2; only 0 and 1 are known. */
    private static PortolanHall names() {
        PortolanHall h = new PortolanHall();
        h.coast(1, 0, 0, 99, 1000);
        h.coast(23, 0, 0, 2, 1000);
        h.pilot(0, 0);
        h.report(0, 0, 1);
        h.chart(1, 1000);
        return h;
    }

    @Sentence(in = COPIES, says = READS)
    static void theLowestAndTheHighestNameAreReadAsEachOther() {
        for (int copyist = 0; copyist < 4; copyist++) {
            for (int way = 0; way <= 2; way++) {
                PortolanHall h = names();
                h.reads(copyist, 1, 99);
                h.reads(copyist, 99, 1);
                h.copy(0, copyist, way, 1000);
                Check.same("name 1 read", h.at(1, 0, 2), 99);
                Check.same("name 99 read", h.at(1, 1, 2), 1);
                Check.same("name 2 read", h.at(1, 23, 2), 2);
            }
        }
    }

    @Sentence(in = COPIES, says = READS)
    static void whatOneCopyistReadsNoOtherDoes() {
        PortolanHall h = names();
        h.reads(1, 1, 50);
        h.reads(2, 1, 51);
        int[] due = {1, 50, 51, 1};
        for (int copyist = 0; copyist < 4; copyist++) {
            h.copy(0, copyist, Halls.PRICKED, 1000);
            Check.same("name 1 read by " + copyist, h.at(1 + copyist, 0, 2), due[copyist]);
        }
    }

    @Sentence(in = COPIES, says = READS)
    static void aNameIsReadOnceInACopy() {
        PortolanHall h = names();
        h.reads(0, 1, 2);
        h.reads(0, 2, 99);
        h.reads(0, 99, 1);
        h.copy(0, 0, Halls.EYE, 1000);
        Check.same("name 1 read", h.at(1, 0, 2), 2);
        Check.same("name 99 read", h.at(1, 1, 2), 1);
        Check.same("name 2 of an unknown point read", h.at(1, 23, 2), 99);
    }

    @Sentence(in = COPIES, says = READS)
    static void theNameToldLastIsReadOrItselfAgain() {
        PortolanHall h = names();
        h.reads(0, 1, 2);
        h.reads(0, 1, 98);
        h.reads(0, 99, 1);
        h.reads(0, 99, 99);
        h.copy(0, 0, Halls.GRID, 1000);
        Check.same("name 1 read", h.at(1, 0, 2), 98);
        Check.same("name 99 read as itself", h.at(1, 1, 2), 99);
    }

    @Sentence(in = COPIES, says = PASTED)
    static void aStretchOfOnePoint() {
        PortolanHall h = Halls.charts(1000, 1000);
        h.lose(1, 4, 6);
        h.exchange(0, 5, 10);
        Check.same("known points of it", h.paste(1, 0, 5, 5), 1);
        Halls.placeIs(h, 1, 5, 50, -15);
        Halls.isUnknown(h, 1, 4);
        Halls.isUnknown(h, 1, 6);
        Check.same("name ahead of it", h.at(1, 4, 2), 5);
        Check.same("name of it", h.at(1, 5, 2), 11);
        Check.same("name behind it", h.at(1, 6, 2), 7);
    }

    @Sentence(in = COPIES, says = PASTED)
    static void aStretchOfAllPoints() {
        PortolanHall h = Halls.charts(1000, 1000);
        h.lose(1, 0, 23);
        h.exchange(0, 0, 23);
        Check.same("known points of it", h.paste(1, 0, 0, 23), 24);
        for (int point = 0; point < 24; point++) {
            Halls.placeIs(h, 1, point, 10 * point, -3 * point);
        }
        Check.same("name of the first", h.at(1, 0, 2), 24);
        Check.same("name of the last", h.at(1, 23, 2), 1);
    }

    @Sentence(in = COPIES, says = PASTED)
    static void aStretchOverTheEdgeOfBasins() {
        PortolanHall h = Halls.charts(1000, 1000);
        h.shrink(0, 0, 200, true);
        h.lose(1, 6, 17);
        Check.same("known points of it", h.paste(1, 0, 7, 16), 10);
        Halls.isUnknown(h, 1, 6);
        Halls.placeIs(h, 1, 7, 70, -21);
        Halls.placeIs(h, 1, 16, 160, -48);
        Halls.isUnknown(h, 1, 17);
        Check.same("the scale stays", h.of(1, 3), 100);
    }

    /** Two charts; on the first one all is twice as far from 0. */
    private static PortolanHall twice() {
        PortolanHall h = Halls.charts(1000, 1000);
        for (int basin = 0; basin < 3; basin++) {
            h.shrink(0, basin, 200, false);
        }
        return h;
    }

    @Sentence(in = COPIES, says = MOVED)
    static void theFirstPointStaysIfBothHaveIt() {
        PortolanHall h = twice();
        h.paste(1, 0, 20, 23);
        Halls.placeIs(h, 1, 19, 190, -57);
        Halls.placeIs(h, 1, 20, 200, -60);
        Halls.placeIs(h, 1, 21, 220, -66);
        Halls.placeIs(h, 1, 23, 260, -78);
        Halls.placeIs(h, 0, 20, 400, -120);
        PortolanHall one = twice();
        one.paste(1, 0, 23, 23);
        Halls.placeIs(one, 1, 23, 230, -69);
        Check.same("source of it", one.at(1, 23, 3), 0);
    }

    @Sentence(in = COPIES, says = MOVED)
    static void theFirstPointIsNotThereYet() {
        PortolanHall h = twice();
        h.lose(1, 20, 20);
        h.paste(1, 0, 20, 22);
        Halls.placeIs(h, 1, 20, 400, -120);
        Halls.placeIs(h, 1, 22, 440, -132);
    }

    @Sentence(in = COPIES, says = MOVED)
    static void theFirstPointIsNotInTheSource() {
        PortolanHall h = twice();
        h.lose(0, 20, 20);
        h.paste(1, 0, 20, 22);
        Halls.isUnknown(h, 1, 20);
        Halls.placeIs(h, 1, 21, 420, -126);
        Halls.placeIs(h, 1, 22, 440, -132);
    }

    @Sentence(in = COPIES, says = MOVED)
    static void theFirstPointIsInNeither() {
        PortolanHall h = twice();
        h.lose(0, 20, 20);
        h.lose(1, 20, 20);
        h.paste(1, 0, 20, 22);
        Halls.isUnknown(h, 1, 20);
        Halls.placeIs(h, 1, 21, 420, -126);
    }

    @Sentence(in = COPIES, says = MOVED)
    static void onlyTheFirstPointSaysHowFar() {
        PortolanHall h = twice();
        h.lose(1, 21, 22);
        h.paste(1, 0, 20, 22);
        Halls.placeIs(h, 1, 21, 220, -66);
        Halls.placeIs(h, 1, 22, 240, -72);
    }

    @Sentence(in = COPIES, says = "unknown points become so.")
    static void unknownPointsOfTheStretchBecomeUnknown() {
        PortolanHall h = Halls.charts(1000, 1000);
        h.lose(0, 20, 20);
        h.lose(0, 22, 23);
        Check.same("known points of it", h.paste(1, 0, 20, 23), 1);
        Halls.isUnknown(h, 1, 20);
        Halls.placeIs(h, 1, 21, 210, -63);
        Halls.isUnknown(h, 1, 22);
        Halls.isUnknown(h, 1, 23);
        Check.same("source of an unknown one", h.at(1, 23, 3), Halls.NONE);
        Check.same("known points", h.of(1, 1), 21);
    }

    @Sentence(in = COPIES, says = "unknown points become so.")
    static void anUnknownPointIsPastedOverAKnownOne() {
        PortolanHall h = Halls.charts(1000, 1000);
        h.lose(0, 0, 0);
        h.exchange(0, 0, 23);
        Check.same("known points of it", h.paste(1, 0, 0, 0), 0);
        Halls.isUnknown(h, 1, 0);
        Check.same("its name comes with it", h.at(1, 0, 2), 24);
        Halls.placeIs(h, 1, 1, 10, -3);
    }

    @Sentence(in = COPIES, says = "To draw an island is to add one, at a place, with a number that is a new one of all")
    static void anIslandsNumberIsANewOneOfAll() {
        PortolanHall h = Halls.charts(1000, 1000);
        for (int island = 0; island < 20; island++) {
            Check.same("island", h.island(island % 2, 0, 0), island);
            h.paint(island % 2, island);
        }
        Check.state("a 21st", () -> h.island(0, 0, 0));
    }

    @Sentence(in = COPIES, says = "copies have the islands of their patterns.")
    static void aCopyHasTheIslandsOfItsPattern() {
        PortolanHall h = Halls.charts(1000);
        h.copy(0, 0, 0, 1000);
        for (int island = 0; island < 20; island++) {
            h.island(0, 0, 0);
        }
        h.copy(0, 0, 1, 1000);
        h.paint(0, 0);
        h.paint(0, 19);
        h.copy(0, 0, 2, 1000);
        Check.same("of an earlier copy", h.of(1, 2), 0);
        Check.same("of a copy with all", h.of(2, 2), 20);
        Check.same("of a copy with all but two", h.of(3, 2), 18);
        Check.yes("the last one is on the copy", h.paint(2, 19));
        Check.yes("what was painted over is not", !h.paint(3, 19));
    }

    @Sentence(in = COPIES, says = "To exchange two names of a chart is an error that is told.")
    static void theFirstAndTheLastNameAreExchanged() {
        PortolanHall h = Halls.charts(1000, 1000);
        h.exchange(0, 0, 23);
        Check.same("name of 0", h.at(0, 0, 2), 24);
        Check.same("name of 23", h.at(0, 23, 2), 1);
        Check.same("false names", h.of(0, 6), 2);
        Check.same("false names of the other chart", h.of(1, 6), 0);
        h.exchange(0, 23, 0);
        Check.same("exchanged back", h.of(0, 6), 0);
    }

    @Sentence(in = COPIES, says = "To exchange two names of a chart is an error that is told.")
    static void aNameIsExchangedWithItself() {
        PortolanHall h = Halls.charts(1000);
        h.exchange(0, 23, 23);
        Check.same("name of 23", h.at(0, 23, 2), 24);
        Check.same("false names", h.of(0, 6), 0);
    }

    @Sentence(in = COPIES, says = SHRINKS)
    static void aBasinShrinksToHalfAndGrowsToTwice() {
        PortolanHall h = Halls.charts(1000);
        h.shrink(0, 2, 50, true);
        Check.same("scale then", h.shrink(0, 2, 200, false), 50);
        Halls.placeIs(h, 0, 15, 150, -45);
        Halls.placeIs(h, 0, 16, 320, -96);
        Halls.placeIs(h, 0, 23, 460, -138);
        h.shrink(0, 2, 50, false);
        h.shrink(0, 2, 50, false);
        Halls.placeIs(h, 0, 23, 115, -34);
        h.shrink(0, 2, 100, false);
        Halls.placeIs(h, 0, 23, 115, -34);
        Check.same("the scale stays", h.of(0, 5), 50);
        Check.same("known points", h.of(0, 1), 24);
    }

    @Sentence(in = COPIES, says = "a stretch is lost, its points are unknown")
    static void theLostPointsAreUnknown() {
        PortolanHall h = Halls.charts(1000);
        h.lose(0, 7, 8);
        Halls.placeIs(h, 0, 6, 60, -18);
        Halls.isUnknown(h, 0, 7);
        Halls.isUnknown(h, 0, 8);
        Halls.placeIs(h, 0, 9, 90, -27);
        Check.same("name of a lost one", h.at(0, 7, 2), 8);
        h.lose(0, 0, 23);
        Check.same("known points", h.of(0, 1), 0);
    }

    @Sentence(in = COPIES, says = "an island is painted over.")
    static void anIslandIsPaintedOverOnOneChart() {
        PortolanHall h = Halls.charts(1000);
        h.island(0, 0, 0);
        h.island(0, 0, 0);
        h.copy(0, 0, 0, 1000);
        h.paint(0, 0);
        Check.same("on the chart", h.of(0, 2), 1);
        Check.same("on the copy", h.of(1, 2), 2);
        Check.same("charts that have it", h.ofIsland(0, 0), 1);
        Check.same("charts that have the other", h.ofIsland(1, 0), 2);
    }

    @Sentence(in = COPIES, says = "A scale can be told anew.")
    static void aScaleIsToldAnew() {
        PortolanHall h = Halls.charts(1000);
        for (int basin = 0; basin < 3; basin++) {
            Check.same("the lowest", h.shrink(0, basin, 50, true), 50);
            Check.same("the highest", h.shrink(0, basin, 200, true), 200);
            Check.same("told anew", h.shrink(0, basin, 60 + basin, true), 60 + basin);
        }
        for (int basin = 0; basin < 3; basin++) {
            Check.same("scale of " + basin, h.of(0, 3 + basin), 60 + basin);
        }
        Halls.placeIs(h, 0, 23, 230, -69);
    }

    @Sentence(in = COPIES, says = SOURCE)
    static void aPointFromReportsHasNoSource() {
        PortolanHall h = Halls.charts(1000);
        for (int point = 0; point < 24; point++) {
            Check.same("source of " + point, h.at(0, point, 3), Halls.NONE);
        }
    }

    @Sentence(in = COPIES, says = SOURCE)
    static void aPointsSourceIsThePatternOrWhatWasPasted() {
        PortolanHall h = Halls.charts(1000, 1000);
        h.copy(0, 0, 0, 1000);
        h.copy(2, 0, 0, 1000);
        h.paste(3, 1, 23, 23);
        Check.same("source of the copy, the chart 0", h.at(2, 0, 3), 0);
        Check.same("source of the copy's copy", h.at(3, 0, 3), 2);
        Check.same("source ahead of the stretch", h.at(3, 22, 3), 2);
        Check.same("source of the stretch", h.at(3, 23, 3), 1);
        h.shrink(3, 2, 200, false);
        h.exchange(3, 22, 23);
        Check.same("damages leave it", h.at(3, 23, 3), 1);
        h.lose(3, 23, 23);
        Check.same("a lost point has none", h.at(3, 23, 3), Halls.NONE);
    }

    @Sentence(in = COPIES, says = CHAIN)
    static void aChainOfOne() {
        PortolanHall h = Halls.charts(1000);
        Halls.chainIs(h, 0, 0, 0);
        Halls.chainIs(h, 0, 23, 0);
    }

    @Sentence(in = COPIES, says = CHAIN)
    static void aChainOfAllTwelve() {
        PortolanHall h = Halls.twelveCopies();
        Halls.chainIs(h, 11, 0, 11, 10, 9, 8, 7, 6, 5, 4, 3, 2, 1, 0);
        Halls.chainIs(h, 11, 23, 11, 10, 9, 8, 7, 6, 5, 4, 3, 2, 1, 0);
    }

    @Sentence(in = COPIES, says = CHAIN)
    static void aChainUpToHigherNumbers() {
        PortolanHall h = Halls.reports(1);
        for (int chart = 0; chart < 12; chart++) {
            h.chart(1, 1000);
        }
        for (int chart = 10; chart >= 0; chart--) {
            Check.same("pasted", h.paste(chart, chart + 1, 1, 1), 1);
        }
        Halls.chainIs(h, 0, 1, 0, 1, 2, 3, 4, 5, 6, 7, 8, 9, 10, 11);
        Halls.chainIs(h, 0, 0, 0);
        Check.state("a ring of all twelve", () -> h.paste(11, 0, 1, 1));
        Check.taken("a stretch beside it", () -> h.paste(11, 0, 0, 0));
    }

    @Sentence(in = COPIES, says = CHAIN)
    static void theSourcesAreAsTheyAreNow() {
        PortolanHall h = Halls.charts(1000, 1000);
        h.copy(0, 0, 0, 1000);
        h.copy(2, 0, 0, 1000);
        Halls.chainIs(h, 3, 5, 3, 2, 0);
        h.paste(2, 1, 5, 5);
        Halls.chainIs(h, 3, 5, 3, 2, 1);
        Halls.chainIs(h, 3, 4, 3, 2, 0);
        Halls.chainIs(h, 3, 6, 3, 2, 0);
    }

    @Sentence(in = COPIES, says = "(also one that has lost the point since)")
    static void aChainEndsAtOneThatHasLostThePoint() {
        PortolanHall h = Halls.charts(1000);
        h.copy(0, 0, 0, 1000);
        h.copy(1, 0, 0, 1000);
        h.lose(1, 5, 5);
        Halls.chainIs(h, 2, 5, 2, 1);
        Halls.chainIs(h, 2, 4, 2, 1, 0);
        Halls.chainIs(h, 1, 5);
        h.lose(0, 4, 4);
        Halls.chainIs(h, 2, 4, 2, 1, 0);
    }
}
