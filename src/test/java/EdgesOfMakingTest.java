/** The sentences of the promises 5 to 8: chart, hand, reads, copy. */
public final class EdgesOfMakingTest {
    private static final String CHART = "Promise 5: chart";
    private static final String HAND = "Promise 6: hand";
    private static final String READS = "Promise 7: reads";
    private static final String COPY = "Promise 8: copy";
    private static final String NO_COPYIST = "Throws `IndexOutOfBoundsException` if there is no such copyist";
    private static final String COPY_RANGE = "Throws `IllegalArgumentException` if way or year is out of range, or "
        + "year is below that of the chart";

    public static void main(String[] args) {
        Sentences.run(EdgesOfMakingTest.class);
    }

    @Sentence(in = CHART, says = "Makes a chart from the first reports.")
    static void onlyTheFirstReportsCount() {
        PortolanHall h = Halls.line();
        for (int reports : new int[] {1, 2, 22, 23}) {
            int chart = h.chart(reports, 1000);
            Check.same("points of " + reports, h.of(chart, 1), reports + 1);
            Check.yes("the last one of them", h.at(chart, reports, 0) == 10 * reports);
            if (reports < 23) {
                Halls.isUnknown(h, chart, reports + 1);
            }
        }
    }

    @Sentence(in = CHART, says = "`reports`: how many of them, 1 to all")
    static void chartReports() {
        PortolanHall none = Halls.reports(0);
        Check.argument("0 of none", () -> none.chart(0, 1000));
        Check.argument("1 of none", () -> none.chart(1, 1000));
        for (int reports : new int[] {1, 2, 59, 60}) {
            PortolanHall h = Halls.reports(reports);
            Edge.arguments("of " + reports, 1, reports, count -> h.chart(count, 1000));
        }
    }

    @Sentence(in = CHART, says = "`year`: 0 to 2000")
    static void chartYear() {
        PortolanHall h = Halls.reports(1);
        Edge.arguments("year", 0, 2000, year -> h.chart(1, year));
        Check.same("year of the first", h.of(0, 0), 0);
        Check.same("year of the second", h.of(1, 0), 2000);
    }

    @Sentence(in = CHART, says = "Returns its number.")
    static void chartReturnsItsNumber() {
        PortolanHall h = Halls.reports(1);
        for (int chart = 0; chart < 12; chart++) {
            Check.argument("a refused one takes no number", () -> h.chart(2, 1000));
            Check.same("chart", h.chart(1, 1000 + chart), chart);
        }
        for (int chart = 0; chart < 12; chart++) {
            Check.same("year of " + chart, h.of(chart, 0), 1000 + chart);
        }
    }

    @Sentence(in = CHART, says = "Throws `IllegalArgumentException` if reports or year is out of range")
    static void chartOutOfRange() {
        PortolanHall h = Halls.reports(2);
        Check.argument("reports 0", () -> h.chart(0, 1000));
        Check.argument("reports 3", () -> h.chart(3, 1000));
        Check.argument("year -1", () -> h.chart(1, -1));
        Check.argument("year 2001", () -> h.chart(1, 2001));
        for (int chart = 0; chart < 12; chart++) {
            h.chart(2, 1000);
        }
        Check.argument("reports 3, and there are 12", () -> h.chart(3, 1000));
        Check.argument("year 2001, and there are 12", () -> h.chart(1, 2001));
    }

    @Sentence(in = CHART, says = "Throws `IllegalStateException` if there are 12 charts")
    static void chartBehindTwelve() {
        PortolanHall h = Halls.reports(1);
        for (int chart = 0; chart < 11; chart++) {
            h.chart(1, 1000);
        }
        Check.taken("the twelfth", () -> h.chart(1, 2000));
        Check.state("the 13th", () -> h.chart(1, 2000));
        PortolanHall copies = Halls.twelveCopies();
        Check.state("the 13th behind copies", () -> copies.chart(23, 2000));
    }

    @Sentence(in = HAND, says = "`copyist`: 0 to 3")
    static void handCopyist() {
        PortolanHall h = new PortolanHall();
        Edge.indexes("copyist", 0, 3, copyist -> h.hand(copyist, 5 + copyist));
        Check.same("hand of 0", h.hand(0, 0), 5);
        Check.same("hand of 1", h.hand(1, 0), 0);
        Check.same("hand of 2", h.hand(2, 0), 0);
        Check.same("hand of 3", h.hand(3, 0), 8);
    }

    @Sentence(in = HAND, says = "`hand`: -9 to 9")
    static void handHand() {
        for (int hand : new int[] {-9, -8, 0, 8, 9}) {
            PortolanHall h = Halls.onePoint(20, 20);
            Edge.arguments("hand", -9, 9, any -> h.hand(1, any));
            h.hand(1, hand);
            h.copy(0, 1, Halls.EYE, 1000);
            Halls.placeIs(h, 1, 1, 20 + hand, 20 - hand);
        }
    }

    @Sentence(in = HAND, says = "Returns the hand before.")
    static void handReturnsTheHandBefore() {
        PortolanHall h = new PortolanHall();
        Check.same("at first", h.hand(2, 9), 0);
        Check.argument("10", () -> h.hand(2, 10));
        Check.same("behind 9 and a refused one", h.hand(2, -9), 9);
        Check.same("behind -9", h.hand(2, -9), -9);
        Check.same("behind -9 again", h.hand(2, 0), -9);
        Check.same("of another copyist", h.hand(1, 0), 0);
    }

    @Sentence(in = HAND, says = NO_COPYIST)
    static void handWithoutSuchACopyist() {
        PortolanHall h = new PortolanHall();
        Check.index("-1", () -> h.hand(-1, 0));
        Check.index("4", () -> h.hand(4, 0));
        Check.index("4 and hand 10", () -> h.hand(4, 10));
        Check.index("-1 and hand -10", () -> h.hand(-1, -10));
    }

    @Sentence(in = HAND, says = "Throws `IllegalArgumentException` if hand is out of range")
    static void handOutOfRange() {
        PortolanHall h = new PortolanHall();
        for (int copyist = 0; copyist < 4; copyist++) {
            int one = copyist;
            Check.argument("-10", () -> h.hand(one, -10));
            Check.argument("10", () -> h.hand(one, 10));
            Check.same("the hand stays", h.hand(one, 0), 0);
        }
    }

    @Sentence(in = READS, says = "`copyist`: 0 to 3")
    static void readsCopyist() {
        PortolanHall h = Halls.charts(1000);
        Edge.indexes("copyist", 0, 3, copyist -> h.reads(copyist, 1, 60 + copyist));
        int[] due = {60, 1, 1, 63};
        for (int copyist = 0; copyist < 4; copyist++) {
            h.copy(0, copyist, 0, 1000);
            Check.same("name read by " + copyist, h.at(1 + copyist, 0, 2), due[copyist]);
        }
    }

    /** The points 0 to 3 have the names 1, 99, 2 and 98. */
    private static PortolanHall names() {
        PortolanHall h = new PortolanHall();
        h.coast(1, 0, 0, 99, 1000);
        h.coast(2, 0, 0, 2, 1000);
        h.coast(3, 0, 0, 98, 1000);
        h.pilot(0, 0);
        h.report(0, 0, 1);
        h.chart(1, 1000);
        return h;
    }

    private static void namesAre(PortolanHall h, int chart, int... due) {
        for (int point = 0; point < due.length; point++) {
            Check.same("name of " + point + " on " + chart, h.at(chart, point, 2), due[point]);
        }
    }

    @Sentence(in = READS, says = "`name`: 1 to 99")
    static void readsName() {
        PortolanHall h = names();
        Edge.arguments("name", 1, 99, name -> h.reads(0, name, 50));
        h.copy(0, 0, Halls.PRICKED, 1000);
        namesAre(h, 1, 50, 50, 2, 98);
    }

    @Sentence(in = READS, says = "`as`: 1 to 99")
    static void readsAs() {
        PortolanHall h = names();
        Edge.arguments("as", 1, 99, as -> h.reads(0, 2, as));
        h.copy(0, 0, Halls.PRICKED, 1000);
        namesAre(h, 1, 1, 99, 99, 98);
        h.reads(0, 2, 1);
        h.copy(0, 0, Halls.PRICKED, 1000);
        namesAre(h, 2, 1, 99, 1, 98);
    }

    @Sentence(in = READS, says = NO_COPYIST)
    static void readsWithoutSuchACopyist() {
        PortolanHall h = new PortolanHall();
        Check.index("-1", () -> h.reads(-1, 1, 1));
        Check.index("4", () -> h.reads(4, 99, 99));
        Check.index("4 and name 0", () -> h.reads(4, 0, 1));
        Check.index("4 and as 100", () -> h.reads(4, 1, 100));
    }

    @Sentence(in = READS, says = "Throws `IllegalArgumentException` if name or as is out of range")
    static void readsOutOfRange() {
        PortolanHall h = names();
        Check.argument("name 0", () -> h.reads(0, 0, 1));
        Check.argument("name 100", () -> h.reads(0, 100, 1));
        Check.argument("as 0", () -> h.reads(0, 1, 0));
        Check.argument("as 100", () -> h.reads(0, 1, 100));
        Check.argument("both", () -> h.reads(3, 100, 0));
        h.copy(0, 0, Halls.PRICKED, 1000);
        namesAre(h, 1, 1, 99, 2, 98);
    }

    @Sentence(in = COPY, says = "`chart`: its number")
    static void copyChart() {
        PortolanHall none = Halls.line();
        Check.index("the first of none", () -> none.copy(0, 0, 0, 1000));
        Edge.indexes("of one", 0, 0, chart -> Halls.charts(1000).copy(chart, 0, 0, 1000));
        Edge.indexes("of two", 0, 1, chart -> Halls.charts(1000, 1000).copy(chart, 0, 0, 1000));
        PortolanHall eleven = Halls.reports(1);
        for (int chart = 0; chart < 11; chart++) {
            eleven.chart(1, 1000 + chart);
        }
        Check.index("the twelfth of eleven", () -> eleven.copy(11, 0, 0, 2000));
        Check.same("the last of eleven", eleven.copy(10, 0, 0, 2000), 11);
        Check.same("the pattern of the copy", eleven.at(11, 0, 3), 10);
    }

    @Sentence(in = COPY, says = "`copyist`: 0 to 3")
    static void copyCopyist() {
        PortolanHall h = Halls.onePoint(10, 10);
        for (int copyist = 0; copyist < 4; copyist++) {
            h.hand(copyist, 1 + copyist);
        }
        Edge.indexes("copyist", 0, 3, copyist -> h.copy(0, copyist, Halls.EYE, 1000));
        Halls.placeIs(h, 1, 1, 11, 9);
        Halls.placeIs(h, 2, 1, 14, 6);
    }

    @Sentence(in = COPY, says = "`way`: PRICKED to EYE")
    static void copyWay() {
        PortolanHall h = Halls.onePoint(13, -13);
        h.hand(0, 5);
        Edge.arguments("way", 0, 2, way -> h.copy(0, 0, way, 1000));
        Halls.placeIs(h, 1, 1, 13, -13);
        Halls.placeIs(h, 2, 1, 18, -18);
        h.copy(0, 0, 1, 1000);
        Halls.placeIs(h, 3, 1, 10, -10);
    }

    @Sentence(in = COPY, says = "`year`: 0 to 2000")
    static void copyYear() {
        PortolanHall h = Halls.charts(0);
        Edge.arguments("year", 0, 2000, year -> h.copy(0, 0, 0, year));
        Check.same("year of the first copy", h.of(1, 0), 0);
        Check.same("year of the second copy", h.of(2, 0), 2000);
    }

    @Sentence(in = COPY, says = "Returns the number of the copy.")
    static void copyReturnsTheNumber() {
        PortolanHall h = Halls.charts(1000);
        for (int copy = 1; copy < 12; copy++) {
            Check.argument("a refused one takes no number", () -> h.copy(0, 0, 0, 999));
            Check.same("copy", h.copy(copy - 1, 0, 0, 1000 + copy), copy);
        }
        for (int copy = 1; copy < 12; copy++) {
            Check.same("year of " + copy, h.of(copy, 0), 1000 + copy);
            Check.same("source on " + copy, h.at(copy, 0, 3), copy - 1);
        }
    }

    @Sentence(in = COPY, says = "Throws `IndexOutOfBoundsException` if there is no such chart or copyist")
    static void copyWithoutSuchAChartOrCopyist() {
        PortolanHall h = Halls.charts(1000);
        Check.index("chart -1", () -> h.copy(-1, 0, 0, 1000));
        Check.index("chart 1 of one", () -> h.copy(1, 0, 0, 1000));
        Check.index("copyist -1", () -> h.copy(0, -1, 0, 1000));
        Check.index("copyist 4", () -> h.copy(0, 4, 0, 1000));
        Check.index("chart 1 and year 999", () -> h.copy(1, 0, 0, 999));
        Check.index("copyist 4 and way 3", () -> h.copy(0, 4, 3, 1000));
        PortolanHall full = Halls.twelveCopies();
        Check.index("chart 12 of twelve", () -> full.copy(12, 0, 0, 1000));
        Check.index("copyist 4, and there are 12", () -> full.copy(0, 4, 0, 1000));
    }

    @Sentence(in = COPY, says = COPY_RANGE)
    static void copyOutOfRange() {
        PortolanHall h = Halls.charts(1500);
        Check.argument("way -1", () -> h.copy(0, 0, -1, 1500));
        Check.argument("way 3", () -> h.copy(0, 0, 3, 1500));
        Check.argument("year -1", () -> h.copy(0, 0, 0, -1));
        Check.argument("year 2001", () -> h.copy(0, 0, 0, 2001));
        Check.argument("year 1499", () -> h.copy(0, 0, 0, 1499));
        Check.argument("year 0", () -> h.copy(0, 0, 0, 0));
        Check.taken("year 1500", () -> h.copy(0, 0, 0, 1500));
        h.copy(0, 0, 0, 1600);
        Check.argument("year 1599 of a copy of 1600", () -> h.copy(2, 0, 0, 1599));
        Check.taken("year 1600 of a copy of 1600", () -> h.copy(2, 0, 0, 1600));
        PortolanHall full = Halls.twelveCopies();
        Check.argument("way 3, and there are 12", () -> full.copy(0, 0, 3, 1000));
        Check.argument("year 999, and there are 12", () -> full.copy(0, 0, 0, 999));
    }

    @Sentence(in = COPY, says = "Throws `IllegalStateException` if there are 12 charts")
    static void copyBehindTwelve() {
        PortolanHall h = Halls.charts(1000);
        for (int copy = 1; copy < 11; copy++) {
            h.copy(0, 0, 0, 1000);
        }
        Check.taken("the twelfth chart", () -> h.copy(10, 3, 2, 2000));
        Check.state("the 13th chart", () -> h.copy(10, 3, 2, 2000));
        Check.state("a copy of the twelfth", () -> h.copy(11, 0, 0, 2000));
    }
}
