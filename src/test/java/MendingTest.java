/** Promises 9 to 14: paste, island, exchange, shrink, lose, paint. */
public final class MendingTest {
    private static final int MOST = Integer.MAX_VALUE;
    private static final int LEAST = Integer.MIN_VALUE;
    private static final int NOWHERE = PortolanHall.NOWHERE;
    private static final int NONE = PortolanHall.NONE;

    public static void main(String[] args) {
        pasteMoves();
        pasteWithoutFirst();
        pasteUnknown();
        pasteNamesAndFrame();
        pasteYears();
        pasteRings();
        pasteAfterLoss();
        pasteFarAway();
        pasteRefuses();
        islands();
        islandsRefuse();
        exchanges();
        shrinks();
        shrinksFarAway();
        scales();
        loses();
        paints();
        Check.end("MendingTest");
    }

    /** A line of points, 10 apart in x and -3 in y; chart 0 knows those from 0 to 11, without errors. */
    private static PortolanHall line() {
        PortolanHall h = new PortolanHall();
        for (int point = 0; point < 24; point++) {
            h.coast(point, 10 * point, -3 * point, point + 1, 1000);
        }
        h.pilot(0, 0);
        for (int point = 1; point < 12; point++) {
            h.report(0, 0, point);
        }
        h.chart(11, 1500);
        return h;
    }

    private static void place(PortolanHall h, int chart, int point, int x, int y) {
        Check.same("x of " + point + " on " + chart, h.at(chart, point, 0), x);
        Check.same("y of " + point + " on " + chart, h.at(chart, point, 1), y);
    }

    private static void pasteMoves() {
        PortolanHall h = line();
        h.hand(0, 4);
        h.copy(0, 0, PortolanHall.EYE, 1500);
        h.copy(0, 1, PortolanHall.PRICKED, 1500);
        h.shrink(1, 0, 50, false);
        place(h, 1, 2, 12, -5);
        place(h, 1, 4, 22, -8);
        Check.same("known of the stretch", h.paste(2, 1, 2, 4), 3);
        place(h, 2, 1, 10, -3);
        place(h, 2, 2, 20, -6);
        place(h, 2, 3, 20 + 17 - 12, -6 - 6 + 5);
        place(h, 2, 4, 20 + 22 - 12, -6 - 8 + 5);
        place(h, 2, 5, 50, -15);
        Check.same("source of the first", h.at(2, 2, 3), 1);
        Check.same("source of the last", h.at(2, 4, 3), 1);
        Check.same("source ahead of it", h.at(2, 1, 3), 0);
        Check.same("source behind it", h.at(2, 5, 3), 0);
        place(h, 1, 2, 12, -5);
        place(h, 1, 4, 22, -8);
        Check.same("all of it", h.paste(2, 1, 0, 23), 12);
        place(h, 2, 0, 0, 0);
        place(h, 2, 11, h.at(1, 11, 0) - 2, h.at(1, 11, 1) + 2);
    }

    private static void pasteWithoutFirst() {
        PortolanHall h = line();
        h.hand(0, 4);
        h.copy(0, 0, PortolanHall.EYE, 1500);
        h.copy(0, 1, PortolanHall.PRICKED, 1500);
        h.lose(2, 2, 2);
        Check.same("first unknown there", h.paste(2, 1, 2, 3), 2);
        place(h, 2, 2, 24, -10);
        place(h, 2, 3, 34, -13);
        h.lose(1, 6, 6);
        Check.same("first unknown in the source", h.paste(2, 1, 6, 7), 1);
        place(h, 2, 6, NOWHERE, NOWHERE);
        place(h, 2, 7, 74, -25);
    }

    private static void pasteUnknown() {
        PortolanHall h = line();
        h.copy(0, 1, PortolanHall.PRICKED, 1500);
        h.copy(0, 1, PortolanHall.PRICKED, 1500);
        h.lose(1, 3, 4);
        Check.same("known of the stretch", h.paste(2, 1, 2, 5), 2);
        place(h, 2, 3, NOWHERE, NOWHERE);
        place(h, 2, 4, NOWHERE, NOWHERE);
        Check.same("source of the unknown", h.at(2, 3, 3), NONE);
        Check.same("known", h.of(2, 1), 10);
        Check.same("one unknown point", h.paste(2, 1, 20, 20), 0);
        Check.same("source of the last known", h.at(2, 5, 3), 1);
    }

    private static void pasteNamesAndFrame() {
        PortolanHall h = line();
        h.copy(0, 1, PortolanHall.PRICKED, 1500);
        h.copy(0, 1, PortolanHall.PRICKED, 1500);
        h.exchange(1, 3, 4);
        h.exchange(1, 20, 21);
        h.exchange(2, 5, 6);
        h.island(1, 0, 0);
        h.shrink(1, 0, 70, true);
        h.lose(1, 4, 4);
        h.paste(2, 1, 3, 5);
        Check.same("name of the first", h.at(2, 3, 2), 5);
        Check.same("name of one that becomes unknown", h.at(2, 4, 2), 4);
        Check.same("name of the last", h.at(2, 5, 2), 6);
        Check.same("name behind it", h.at(2, 6, 2), 6);
        h.paste(2, 1, 20, 20);
        Check.same("name of an unknown one", h.at(2, 20, 2), 22);
        Check.same("name behind it", h.at(2, 21, 2), 22);
        Check.same("islands stay", h.of(2, 2), 0);
        Check.same("the scale stays", h.of(2, 3), 100);
        Check.same("the year stays", h.of(2, 0), 1500);
    }

    private static void pasteYears() {
        PortolanHall h = line();
        h.chart(11, 1499);
        h.chart(11, 1501);
        Check.state("a younger source", () -> h.paste(1, 0, 0, 3));
        Check.same("an older source", h.paste(0, 1, 0, 3), 4);
        Check.same("a much older source", h.paste(2, 1, 0, 3), 4);
    }

    private static void pasteRings() {
        PortolanHall h = line();
        h.copy(0, 0, PortolanHall.PRICKED, 1500);
        h.copy(1, 0, PortolanHall.PRICKED, 1500);
        h.chart(11, 1500);
        Check.state("the chart is the source", () -> h.paste(0, 1, 2, 2));
        Check.state("the chart is among the sources", () -> h.paste(0, 2, 2, 2));
        Check.state("of the last point", () -> h.paste(0, 2, 0, 11));
        Check.same("an unknown point has no sources", h.paste(0, 2, 12, 13), 0);
        Check.state("of one point", () -> h.paste(0, 2, 11, 13));
        Check.same("no ring", h.paste(3, 2, 2, 4), 3);
        Check.state("a ring by a paste", () -> h.paste(1, 3, 4, 5));
        Check.same("no ring beside it", h.paste(1, 3, 5, 5), 1);
        Check.state("a ring by it", () -> h.paste(3, 2, 5, 5));
        Check.same("no ring ahead of it", h.paste(1, 3, 1, 1), 1);
        Check.same("pasted again", h.paste(3, 2, 2, 4), 3);
        Check.state("a ring of the last point alone", () -> h.paste(2, 3, 1, 2));
        Check.state("a ring of the first point alone", () -> h.paste(2, 3, 4, 5));
        Check.state("a ring of one in the midst", () -> h.paste(0, 3, 1, 9));
        Check.same("source ahead of the ring", h.at(2, 1, 3), 1);
        Check.same("source ahead of the ring", h.at(0, 1, 3), NONE);
    }

    private static void pasteAfterLoss() {
        PortolanHall h = line();
        h.copy(0, 0, PortolanHall.PRICKED, 1500);
        h.copy(1, 0, PortolanHall.PRICKED, 1500);
        h.chart(11, 1500);
        h.lose(0, 2, 2);
        Check.state("one that lost it is a source", () -> h.paste(0, 2, 2, 2));
        h.lose(1, 2, 2);
        Check.state("one that lost it is the source", () -> h.paste(1, 2, 2, 2));
        Check.same("the chain ends at one that lost it", h.paste(0, 2, 2, 2), 1);
        Check.same("source", h.at(0, 2, 3), 2);
        Check.state("now there is a ring", () -> h.paste(1, 0, 2, 2));
        Check.same("from the reports anew", h.paste(1, 3, 2, 2), 1);
        Check.same("chain", h.chain(0, 2, 3), 3);
    }

    private static void pasteFarAway() {
        PortolanHall h = MakingTest.zigzag();
        h.copy(0, 0, PortolanHall.PRICKED, 1500);
        h.chart(1, 1500);
        // Point 16 stands at -500 + 8 * 1200, point 17 at 1690 more.
        place(h, 0, 16, -500, 9100);
        place(h, 0, 17, 410, 10790);
        Check.same("within", h.paste(2, 0, 16, 16), 1);
        Check.state("beyond", () -> h.paste(2, 0, 17, 17));
        Check.state("beyond, behind one within", () -> h.paste(2, 0, 16, 17));
        Check.state("beyond, though it was so there", () -> h.paste(1, 0, 17, 17));
        place(h, 2, 17, NOWHERE, NOWHERE);
        h.shrink(2, 2, 50, false);
        place(h, 2, 16, -250, 4550);
        Check.same("moved to within", h.paste(2, 0, 16, 17), 2);
        place(h, 2, 17, -250 + 910, 4550 + 1690);
        Check.same("all points are known", h.of(0, 1), 24);
        h.lose(1, 18, 23);
        h.lose(2, 17, 17);
        Check.state("beyond, ahead of unknown ones", () -> h.paste(2, 1, 17, 23));
        edgeOf(9999, true);
        edgeOf(10000, false);
        edgeAcross(0, 1);
        edgeAcross(1, 0);
    }

    /** Along x or y alone, up or down: the point 8 is brought to 9900, and the other ones are 99 and 100 further. */
    private static void edgeAcross(int inX, int inY) {
        for (int sign = -1; sign <= 1; sign += 2) {
            int x = sign * inX;
            int y = sign * inY;
            PortolanHall h = new PortolanHall();
            int[] far = {375, 474, 475, 500};
            for (int i = 0; i < 4; i++) {
                h.coast(8 + i, far[i] * x, far[i] * y, 9 + i, 1000);
            }
            h.pilot(0, 0);
            for (int i = 0; i < 4; i++) {
                h.report(0, 0, 8 + i);
            }
            h.chart(4, 1000);
            h.chart(1, 1000);
            for (int i = 0; i < 4; i++) {
                h.shrink(1, 1, 200, false);
            }
            h.shrink(1, 1, 165, false);
            place(h, 1, 8, 9900 * x, 9900 * y);
            Check.same("9999", h.paste(1, 0, 8, 9), 2);
            place(h, 1, 9, 9999 * x, 9999 * y);
            Check.state("10000", () -> h.paste(1, 0, 8, 10));
            place(h, 1, 10, NOWHERE, NOWHERE);
            Check.state("10098", () -> h.shrink(1, 1, 101, false));
            for (int i = 0; i < 4; i++) {
                h.shrink(0, 1, 200, false);
            }
            Check.state("8000 to 10000", () -> h.shrink(0, 1, 125, false));
            place(h, 0, 11, 8000 * x, 8000 * y);
            Check.same("8000 to 9920", h.shrink(0, 1, 124, false), 100);
            place(h, 0, 11, 9920 * x, 9920 * y);
        }
    }

    /** One place of a chart is brought to x and -x; then it is pasted, or not. */
    private static void edgeOf(int x, boolean isWithin) {
        PortolanHall h = new PortolanHall();
        h.coast(1, 500, -500, 2, 1000);
        h.pilot(0, 0);
        h.report(0, 0, 1);
        h.chart(1, 1000);
        h.chart(1, 1000);
        for (int i = 0; i < 4; i++) {
            h.shrink(0, 0, 200, false);
        }
        h.shrink(0, 0, 124, false);
        int chart = 0;
        for (int far = 9920; far < x; far += 8) {
            h.hand(0, Math.min(8, x - far));
            chart = h.copy(chart, 0, PortolanHall.EYE, 1000);
        }
        int last = chart;
        place(h, last, 1, x, -x);
        h.lose(1, 0, 23);
        if (isWithin) {
            Check.same("pasted at the edge", h.paste(1, last, 1, 1), 1);
            Check.same("shrunk by nothing at the edge", h.shrink(last, 0, 100, false), 100);
        } else {
            Check.state("pasted beyond the edge", () -> h.paste(1, last, 1, 1));
            Check.state("shrunk by nothing beyond the edge", () -> h.shrink(last, 0, 100, false));
            Check.same("the scale beyond the edge", h.shrink(last, 0, 120, true), 120);
            Check.same("shrunk to within", h.shrink(last, 0, 99, false), 120);
            place(h, last, 1, 9900, -9900);
        }
    }

    private static void pasteRefuses() {
        PortolanHall h = line();
        h.copy(0, 0, PortolanHall.PRICKED, 1600);
        Check.index("chart 2 of two", () -> h.paste(2, 0, 0, 1));
        Check.index("chart -1", () -> h.paste(-1, 0, 0, 1));
        Check.index("source 2 of two", () -> h.paste(0, 2, 0, 1));
        Check.index("source -1", () -> h.paste(0, -1, 0, 1));
        Check.index("both 2", () -> h.paste(2, 2, 0, 1));
        Check.index("from -1", () -> h.paste(1, 0, -1, 1));
        Check.index("from 24", () -> h.paste(1, 0, 24, 24));
        Check.index("to 24", () -> h.paste(1, 0, 0, 24));
        Check.index("to -1", () -> h.paste(1, 0, 0, -1));
        Check.index("to most, and both the same", () -> h.paste(1, 1, 0, MOST));
        Check.argument("both 1", () -> h.paste(1, 1, 0, 1));
        Check.argument("to below from", () -> h.paste(1, 0, 5, 4));
        Check.argument("to below from, a younger source", () -> h.paste(0, 1, 5, 4));
        Check.state("a younger source", () -> h.paste(0, 1, 5, 5));
    }

    private static void islands() {
        PortolanHall h = line();
        h.copy(0, 0, PortolanHall.PRICKED, 1500);
        Check.same("first", h.island(1, -999, 999), 0);
        Check.same("second", h.island(0, 999, -999), 1);
        Check.same("third", h.island(1, 5, 6), 2);
        Check.same("of the chart 0", h.of(0, 2), 1);
        Check.same("of the chart 1", h.of(1, 2), 2);
        Check.same("x", h.ofIsland(0, 1), -999);
        Check.same("y", h.ofIsland(0, 2), 999);
        Check.same("x", h.ofIsland(1, 1), 999);
        Check.same("y", h.ofIsland(1, 2), -999);
        Check.same("drawn first on", h.ofIsland(0, 3), 1);
        Check.same("drawn first on", h.ofIsland(1, 3), 0);
    }

    private static void islandsRefuse() {
        PortolanHall h = line();
        Check.index("chart 1 of one", () -> h.island(1, 0, 0));
        Check.index("chart -1", () -> h.island(-1, 0, 0));
        Check.index("chart 1 and x 1000", () -> h.island(1, 1000, 0));
        Check.argument("x 1000", () -> h.island(0, 1000, 0));
        Check.argument("x -1000", () -> h.island(0, -1000, 0));
        Check.argument("y 1000", () -> h.island(0, 0, 1000));
        Check.argument("y -1000", () -> h.island(0, 0, -1000));
        Check.argument("y least", () -> h.island(0, 0, LEAST));
        for (int i = 0; i < 20; i++) {
            Check.same("island", h.island(0, i, i), i);
            h.paint(0, i);
        }
        Check.state("a 21st island, though all are painted over", () -> h.island(0, 0, 0));
        Check.argument("a 21st island, x 1000", () -> h.island(0, 1000, 0));
        Check.index("a 21st island, chart 1", () -> h.island(1, 0, 0));
        Check.same("islands", h.of(0, 2), 0);
    }

    private static void exchanges() {
        PortolanHall h = line();
        h.copy(0, 0, PortolanHall.PRICKED, 1500);
        h.exchange(1, 0, 23);
        Check.same("name of 0", h.at(1, 0, 2), 24);
        Check.same("name of 23", h.at(1, 23, 2), 1);
        h.exchange(1, 23, 5);
        Check.same("name of 23", h.at(1, 23, 2), 6);
        Check.same("name of 5", h.at(1, 5, 2), 1);
        h.exchange(1, 7, 7);
        Check.same("name of 7", h.at(1, 7, 2), 8);
        place(h, 1, 0, 0, 0);
        Check.same("name on the pattern", h.at(0, 0, 2), 1);
        Check.index("chart 2 of two", () -> h.exchange(2, 0, 1));
        Check.index("chart -1", () -> h.exchange(-1, 0, 1));
        Check.index("point 24", () -> h.exchange(0, 24, 1));
        Check.index("point -1", () -> h.exchange(0, -1, 1));
        Check.index("other 24", () -> h.exchange(0, 1, 24));
        Check.index("other -1", () -> h.exchange(0, 1, -1));
        Check.index("other most", () -> h.exchange(0, 1, MOST));
        Check.same("name stays", h.at(0, 1, 2), 2);
    }

    private static void shrinks() {
        PortolanHall h = line();
        Check.same("scale then", h.shrink(0, 0, 90, false), 100);
        place(h, 0, 7, 63, -18);
        place(h, 0, 8, 80, -24);
        Check.same("the scale stays", h.of(0, 3), 100);
        Check.same("unknown ones stay so", h.shrink(0, 2, 200, false), 100);
        place(h, 0, 20, NOWHERE, NOWHERE);
        h.shrink(0, 1, 150, false);
        place(h, 0, 8, 120, -36);
        place(h, 0, 7, 63, -18);
        place(h, 0, 11, 165, -49);
        place(h, 0, 12, NOWHERE, NOWHERE);
        Check.same("name stays", h.at(0, 8, 2), 9);
        Check.same("source stays", h.at(0, 8, 3), NONE);
        h.shrink(0, 1, 50, false);
        h.shrink(0, 1, 100, false);
        place(h, 0, 11, 82, -24);
        Check.index("chart 1 of one", () -> h.shrink(1, 0, 100, false));
        Check.index("basin 3", () -> h.shrink(0, 3, 100, false));
        Check.index("basin -1", () -> h.shrink(0, -1, 100, false));
        Check.index("basin 3, hundredths 49", () -> h.shrink(0, 3, 49, true));
        Check.argument("hundredths 49", () -> h.shrink(0, 0, 49, false));
        Check.argument("hundredths 201", () -> h.shrink(0, 0, 201, false));
        Check.argument("hundredths least", () -> h.shrink(0, 0, LEAST, false));
        Check.argument("scale 49", () -> h.shrink(0, 0, 49, true));
        Check.argument("scale 201", () -> h.shrink(0, 0, 201, true));
    }

    private static void shrinksFarAway() {
        PortolanHall h = MakingTest.zigzag();
        place(h, 0, 8, -500, 4300);
        place(h, 0, 15, 410, 9590);
        Check.state("beyond", () -> h.shrink(0, 1, 105, false));
        place(h, 0, 8, -500, 4300);
        place(h, 0, 15, 410, 9590);
        Check.same("within", h.shrink(0, 1, 104, false), 100);
        place(h, 0, 15, 426, 9973);
        Check.argument("hundredths 201 comes first", () -> h.shrink(0, 1, 201, false));
        Check.state("beyond", () -> h.shrink(0, 2, 100, false));
        Check.same("the scale can be told", h.shrink(0, 2, 200, true), 200);
        Check.state("14390 to 10073", () -> h.shrink(0, 2, 70, false));
        Check.same("14390 to 9929", h.shrink(0, 2, 69, false), 200);
        place(h, 0, 23, 282, 9929);
        h.lose(0, 9, 15);
        Check.same("the lost ones do not count", h.shrink(0, 1, 200, false), 100);
        place(h, 0, 15, NOWHERE, NOWHERE);
    }

    private static void scales() {
        PortolanHall h = line();
        Check.same("scale told", h.shrink(0, 1, 50, true), 50);
        Check.same("scale told", h.shrink(0, 2, 200, true), 200);
        Check.same("of 0", h.of(0, 3), 100);
        Check.same("of 1", h.of(0, 4), 50);
        Check.same("of 2", h.of(0, 5), 200);
        place(h, 0, 8, 80, -24);
        Check.same("shrinking answers the scale", h.shrink(0, 1, 100, false), 50);
    }

    private static void loses() {
        PortolanHall h = line();
        Check.same("known of it", h.lose(0, 10, 14), 2);
        Check.same("known of it again", h.lose(0, 10, 14), 0);
        place(h, 0, 9, 90, -27);
        place(h, 0, 10, NOWHERE, NOWHERE);
        place(h, 0, 11, NOWHERE, NOWHERE);
        Check.same("name stays", h.at(0, 10, 2), 11);
        Check.same("known", h.of(0, 1), 10);
        Check.same("one of it", h.lose(0, 0, 0), 1);
        Check.same("all of it", h.lose(0, 0, 23), 9);
        h.copy(0, 0, PortolanHall.EYE, 1500);
        Check.same("a copy knows no more", h.of(1, 1), 0);
        Check.index("chart 2 of two", () -> h.lose(2, 0, 0));
        Check.index("chart -1", () -> h.lose(-1, 0, 0));
        Check.index("from -1", () -> h.lose(0, -1, 0));
        Check.index("from 24", () -> h.lose(0, 24, 24));
        Check.index("to 24", () -> h.lose(0, 0, 24));
        Check.index("to -1", () -> h.lose(0, 0, -1));
        Check.index("to least", () -> h.lose(0, 5, LEAST));
        Check.argument("to below from", () -> h.lose(0, 5, 4));
    }

    private static void paints() {
        PortolanHall h = line();
        Check.index("no island", () -> h.paint(0, 0));
        h.island(0, 0, 0);
        h.copy(0, 0, PortolanHall.PRICKED, 1500);
        h.island(1, 0, 0);
        Check.yes("the chart had it", h.paint(0, 0));
        Check.yes("the chart had it no more", !h.paint(0, 0));
        Check.yes("the chart never had it", !h.paint(0, 1));
        Check.same("islands", h.of(0, 2), 0);
        Check.same("islands of the copy", h.of(1, 2), 2);
        Check.same("charts that have it", h.ofIsland(0, 0), 1);
        Check.yes("the copy had it", h.paint(1, 0));
        Check.yes("it is still an island", !h.paint(1, 0));
        Check.index("chart 2 of two", () -> h.paint(2, 0));
        Check.index("chart -1", () -> h.paint(-1, 0));
        Check.index("island 2 of two", () -> h.paint(0, 2));
        Check.index("island -1", () -> h.paint(0, -1));
        Check.index("island 20", () -> h.paint(0, 20));
        Check.index("island most", () -> h.paint(0, MOST));
    }
}
