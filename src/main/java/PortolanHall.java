/**
 * Old charts and those who copied them. A chart is made from the reports of pilots, or copied from
 * another chart, or mended with a stretch of one; whoever asks can learn how far each chart is from
 * the true coast, which errors two charts have in common, and from which chart each place came.
 */
public final class PortolanHall {
    public static final int NONE = -1;
    public static final int NOWHERE = 100000;
    public static final int PRICKED = 0, GRID = 1, EYE = 2;

    private static final int POINTS = 24;
    private static final int BASINS = 3;
    private static final int BASIN_POINTS = 8;
    private static final int PILOTS = 6;
    private static final int REPORTS = 60;
    private static final int CHARTS = 12;
    private static final int COPYISTS = 4;
    private static final int ISLANDS = 20;
    private static final int LAST_NAME = 99;
    private static final int LAST_YEAR = 2000;
    private static final int FIRST_HARBOUR_YEAR = 1000;
    private static final int COAST_EDGE = 500;
    private static final int ISLAND_EDGE = 999;
    private static final int PLACE_EDGE = 9999;
    private static final int PILOT_EDGE = 30;
    private static final int HAND_EDGE = 9;
    private static final int LEAST_SCALE = 50;
    private static final int MOST_SCALE = 200;
    private static final int HUNDRED = 100;
    private static final int GRID_STEP = 5;

    private final Coast truth = new Coast();
    private final Pilots pilots = new Pilots();
    private final Log log = new Log();
    private final Round round = new Round();
    private final Copyist[] copyists = new Copyist[COPYISTS];
    private final Chart[] charts = new Chart[CHARTS];
    private final Islands islands = new Islands();
    private int chartCount = 0;

    public PortolanHall() {
        for (int i = 0; i < COPYISTS; i++) {
            copyists[i] = new Copyist();
        }
        for (int i = 0; i < CHARTS; i++) {
            charts[i] = new Chart();
        }
    }

    // ---- the coast

    public void coast(int point, int x, int y, int name, int year)
            throws IndexOutOfBoundsException, IllegalArgumentException, IllegalStateException {
        needPoint(point);
        if (!isWithin(x, COAST_EDGE) || !isWithin(y, COAST_EDGE) || !isName(name) || !isYear(year)) {
            throw new IllegalArgumentException("x, y, name or year is out of range");
        }
        if (log.count > 0) {
            throw new IllegalStateException("there are reports");
        }
        truth.x[point] = x;
        truth.y[point] = y;
        truth.name[point] = name;
        truth.year[point] = year;
    }

    public int pilot(int turn, int error) throws IllegalArgumentException, IllegalStateException {
        if (!isWithin(turn, PILOT_EDGE) || !isWithin(error, PILOT_EDGE)) {
            throw new IllegalArgumentException("turn or error is out of range");
        }
        if (pilots.count >= PILOTS) {
            throw new IllegalStateException("there are all the pilots");
        }
        int number = pilots.count;
        pilots.turn[number] = turn;
        pilots.error[number] = error;
        pilots.count = number + 1;
        return number;
    }

    public int report(int pilot, int from, int to)
            throws IndexOutOfBoundsException, IllegalArgumentException, IllegalStateException {
        if (pilot < 0 || pilot >= pilots.count) {
            throw new IndexOutOfBoundsException("no such pilot");
        }
        needPoint(from);
        needPoint(to);
        if (from == to) {
            throw new IllegalArgumentException("both points are the same");
        }
        if (log.count >= REPORTS) {
            throw new IllegalStateException("there are all the reports");
        }
        int dx = truth.x[to] - truth.x[from];
        int dy = truth.y[to] - truth.y[from];
        int turnedX = dx - dy * pilots.turn[pilot] / HUNDRED;
        int turnedY = dy + dx * pilots.turn[pilot] / HUNDRED;
        int number = log.count;
        log.from[number] = from;
        log.to[number] = to;
        log.x[number] = turnedX + turnedX * pilots.error[pilot] / HUNDRED;
        log.y[number] = turnedY + turnedY * pilots.error[pilot] / HUNDRED;
        log.count = number + 1;
        return number;
    }

    // ---- charts

    public int chart(int reports, int year) throws IllegalArgumentException, IllegalStateException {
        if (reports < 1 || reports > log.count || !isYear(year)) {
            throw new IllegalArgumentException("reports or year is out of range");
        }
        needRoomForChart();
        int number = chartCount;
        Chart made = charts[number];
        made.year = year;
        for (int point = 0; point < POINTS; point++) {
            made.forget(point);
            made.name[point] = truth.name[point];
        }
        for (int basin = 0; basin < BASINS; basin++) {
            made.scale[basin] = HUNDRED;
        }
        made.put(0, truth.x[0], truth.y[0], NONE);
        layOut(made, reports);
        chartCount = number + 1;
        return number;
    }

    public int hand(int copyist, int hand) throws IndexOutOfBoundsException, IllegalArgumentException {
        Copyist told = copyistOf(copyist);
        if (!isWithin(hand, HAND_EDGE)) {
            throw new IllegalArgumentException("hand is out of range");
        }
        int before = told.hand;
        told.hand = hand;
        return before;
    }

    public void reads(int copyist, int name, int as)
            throws IndexOutOfBoundsException, IllegalArgumentException {
        Copyist told = copyistOf(copyist);
        if (!isName(name) || !isName(as)) {
            throw new IllegalArgumentException("name or as is out of range");
        }
        told.reading[name] = as;
    }

    public int copy(int chart, int copyist, int way, int year)
            throws IndexOutOfBoundsException, IllegalArgumentException, IllegalStateException {
        Chart pattern = chartOf(chart);
        Copyist maker = copyistOf(copyist);
        if (way < PRICKED || way > EYE || !isYear(year) || year < pattern.year) {
            throw new IllegalArgumentException("way or year is out of range");
        }
        needRoomForChart();
        int number = chartCount;
        Chart made = charts[number];
        made.year = year;
        for (int point = 0; point < POINTS; point++) {
            made.name[point] = maker.readingOf(pattern.name[point]);
            if (pattern.knows(point)) {
                int x = drawn(pattern.x[point], way, maker.hand);
                int y = drawn(pattern.y[point], way, -maker.hand);
                made.put(point, x, y, chart);
            } else {
                made.forget(point);
            }
        }
        made.takeFrame(pattern);
        chartCount = number + 1;
        return number;
    }

    public int paste(int chart, int source, int from, int to)
            throws IndexOutOfBoundsException, IllegalArgumentException, IllegalStateException {
        Chart into = chartOf(chart);
        Chart giver = chartOf(source);
        needPoint(from);
        needPoint(to);
        if (chart == source || to < from) {
            throw new IllegalArgumentException("the same chart, or the stretch ends ahead of its start");
        }
        if (giver.year > into.year) {
            throw new IllegalStateException("the source is younger");
        }
        if (leadsBack(chart, source, from, to)) {
            throw new IllegalStateException("the source has a place of the stretch from the chart itself");
        }
        boolean bothKnow = into.knows(from) && giver.knows(from);
        int moveX = bothKnow ? into.x[from] - giver.x[from] : 0;
        int moveY = bothKnow ? into.y[from] - giver.y[from] : 0;
        if (!giver.fitsMoved(from, to, moveX, moveY)) {
            throw new IllegalStateException("a place would be too far away");
        }
        for (int point = from; point <= to; point++) {
            into.name[point] = giver.name[point];
            if (giver.knows(point)) {
                into.put(point, giver.x[point] + moveX, giver.y[point] + moveY, source);
            } else {
                into.forget(point);
            }
        }
        return into.knownFrom(from, to);
    }

    public int island(int chart, int x, int y)
            throws IndexOutOfBoundsException, IllegalArgumentException, IllegalStateException {
        Chart drawnOn = chartOf(chart);
        if (!isWithin(x, ISLAND_EDGE) || !isWithin(y, ISLAND_EDGE)) {
            throw new IllegalArgumentException("x or y is out of range");
        }
        if (islands.count >= ISLANDS) {
            throw new IllegalStateException("there were all the islands");
        }
        int number = islands.count;
        islands.x[number] = x;
        islands.y[number] = y;
        islands.firstChart[number] = chart;
        islands.count = number + 1;
        drawnOn.hasIsland[number] = true;
        return number;
    }

    public void exchange(int chart, int point, int other) throws IndexOutOfBoundsException {
        Chart changed = chartOf(chart);
        needPoint(point);
        needPoint(other);
        int name = changed.name[point];
        changed.name[point] = changed.name[other];
        changed.name[other] = name;
    }

    public int shrink(int chart, int basin, int hundredths, boolean isScale)
            throws IndexOutOfBoundsException, IllegalArgumentException, IllegalStateException {
        Chart changed = chartOf(chart);
        needBasin(basin);
        if (hundredths < LEAST_SCALE || hundredths > MOST_SCALE) {
            throw new IllegalArgumentException("hundredths is out of range");
        }
        if (isScale) {
            changed.scale[basin] = hundredths;
        } else if (changed.fitsShrunk(basin, hundredths)) {
            changed.shrinkPlaces(basin, hundredths);
        } else {
            throw new IllegalStateException("a place would be too far away");
        }
        return changed.scale[basin];
    }

    public int lose(int chart, int from, int to)
            throws IndexOutOfBoundsException, IllegalArgumentException {
        Chart changed = chartOf(chart);
        needPoint(from);
        needPoint(to);
        if (to < from) {
            throw new IllegalArgumentException("the stretch ends ahead of its start");
        }
        int known = changed.knownFrom(from, to);
        for (int point = from; point <= to; point++) {
            changed.forget(point);
        }
        return known;
    }

    public boolean paint(int chart, int island) throws IndexOutOfBoundsException {
        Chart changed = chartOf(chart);
        needIsland(island);
        boolean had = changed.hasIsland[island];
        changed.hasIsland[island] = false;
        return had;
    }

    // ---- what is asked

    public int told(int report, boolean inX) throws IndexOutOfBoundsException {
        if (report < 0 || report >= log.count) {
            throw new IndexOutOfBoundsException("no such report");
        }
        return inX ? log.x[report] : log.y[report];
    }

    public int at(int chart, int point, int what)
            throws IndexOutOfBoundsException, IllegalArgumentException {
        Chart asked = chartOf(chart);
        needPoint(point);
        switch (what) {
            case 0:
                return asked.x[point];
            case 1:
                return asked.y[point];
            case 2:
                return asked.name[point];
            case 3:
                return asked.source[point];
            case 4:
                return asked.knows(point) ? errorOf(asked, point, true) : NOWHERE;
            case 5:
                return asked.knows(point) ? errorOf(asked, point, false) : NOWHERE;
            default:
                throw new IllegalArgumentException("what is out of range");
        }
    }

    public int chain(int chart, int point, int place) throws IndexOutOfBoundsException {
        Chart asked = chartOf(chart);
        needPoint(point);
        if (place < 0) {
            throw new IndexOutOfBoundsException("no such place");
        }
        // No chain has a chart twice, so none is longer than all charts.
        if (place >= CHARTS || !asked.knows(point)) {
            return NONE;
        }
        int link = chart;
        for (int i = 0; i < place; i++) {
            link = sourceOf(link, point);
        }
        return link;
    }

    public int of(int chart, int what) throws IndexOutOfBoundsException, IllegalArgumentException {
        Chart asked = chartOf(chart);
        switch (what) {
            case 0:
                return asked.year;
            case 1:
                return asked.knownFrom(0, POINTS - 1);
            case 2:
                return asked.islandCount();
            case 3:
            case 4:
            case 5:
                return asked.scale[what - 3];
            case 6:
                return falseNames(asked);
            default:
                throw new IllegalArgumentException("what is out of range");
        }
    }

    public int ofIsland(int island, int what)
            throws IndexOutOfBoundsException, IllegalArgumentException {
        needIsland(island);
        switch (what) {
            case 0:
                return chartsWith(island);
            case 1:
                return islands.x[island];
            case 2:
                return islands.y[island];
            case 3:
                return islands.firstChart[island];
            case 4:
                return highestChartWith(island);
            default:
                throw new IllegalArgumentException("what is out of range");
        }
    }

    public int fit(int chart, int basin, int what)
            throws IndexOutOfBoundsException, IllegalArgumentException {
        Chart asked = chartOf(chart);
        needBasin(basin);
        switch (what) {
            case 0:
                return shift(asked, basin, true);
            case 1:
                return shift(asked, basin, false);
            case 2:
                return residual(asked, basin);
            default:
                throw new IllegalArgumentException("what is out of range");
        }
    }

    public int shared(int chart, int other, int basin) throws IndexOutOfBoundsException {
        Chart one = chartOf(chart);
        Chart two = chartOf(other);
        needBasin(basin);
        return sharedBy(one, two, basin);
    }

    public int kin(int chart, int basin) throws IndexOutOfBoundsException {
        Chart asked = chartOf(chart);
        needBasin(basin);
        int nearest = NONE;
        int most = 0;
        for (int other = 0; other < chart; other++) {
            int common = sharedBy(asked, charts[other], basin);
            if (common > most) {
                most = common;
                nearest = other;
            }
        }
        return nearest;
    }

    public int date(int chart, int basin) throws IndexOutOfBoundsException {
        Chart asked = chartOf(chart);
        needBasin(basin);
        int youngest = NONE;
        for (int point = firstOf(basin); point <= lastOf(basin); point++) {
            if (hasTrueName(asked, point)) {
                youngest = Math.max(youngest, truth.year[point]);
            }
        }
        return youngest;
    }

    // ---- what the calls need

    private static boolean isWithin(int value, int edge) {
        return value >= -edge && value <= edge;
    }

    private static boolean isName(int name) {
        return name >= 1 && name <= LAST_NAME;
    }

    private static boolean isYear(int year) {
        return year >= 0 && year <= LAST_YEAR;
    }

    private static int firstOf(int basin) {
        return basin * BASIN_POINTS;
    }

    private static int lastOf(int basin) {
        return firstOf(basin) + BASIN_POINTS - 1;
    }

    private static void needPoint(int point) {
        if (point < 0 || point >= POINTS) {
            throw new IndexOutOfBoundsException("no such point");
        }
    }

    private static void needBasin(int basin) {
        if (basin < 0 || basin >= BASINS) {
            throw new IndexOutOfBoundsException("no such basin");
        }
    }

    private void needIsland(int island) {
        if (island < 0 || island >= islands.count) {
            throw new IndexOutOfBoundsException("no such island");
        }
    }

    private void needRoomForChart() {
        if (chartCount >= CHARTS) {
            throw new IllegalStateException("there are all the charts");
        }
    }

    private Chart chartOf(int chart) {
        if (chart < 0 || chart >= chartCount) {
            throw new IndexOutOfBoundsException("no such chart");
        }
        return charts[chart];
    }

    private Copyist copyistOf(int copyist) {
        if (copyist < 0 || copyist >= COPYISTS) {
            throw new IndexOutOfBoundsException("no such copyist");
        }
        return copyists[copyist];
    }

    // ---- how charts are made

    /** Each round that goes on places one point at least, so there are fewer rounds than points. */
    private void layOut(Chart made, int reports) {
        boolean goesOn = true;
        for (int i = 0; i < POINTS && goesOn; i++) {
            gather(made, reports);
            goesOn = round.settle(made);
        }
    }

    private void gather(Chart made, int reports) {
        round.begin();
        for (int i = 0; i < reports; i++) {
            int from = log.from[i];
            int to = log.to[i];
            boolean knowsFrom = made.knows(from);
            boolean knowsTo = made.knows(to);
            if (knowsFrom && !knowsTo) {
                round.give(to, made.x[from] + log.x[i], made.y[from] + log.y[i]);
            } else if (knowsTo && !knowsFrom) {
                round.give(from, made.x[to] - log.x[i], made.y[to] - log.y[i]);
            }
        }
    }

    private static int drawn(int number, int way, int hand) {
        switch (way) {
            case GRID:
                return number / GRID_STEP * GRID_STEP;
            case EYE:
                return number + hand;
            default:
                return number;
        }
    }

    private int sourceOf(int chart, int point) {
        return chart >= 0 && chart < chartCount ? charts[chart].source[point] : NONE;
    }

    /** Whether the chart stands in a chain of the source: a paste would then close a ring. */
    private boolean leadsBack(int chart, int source, int from, int to) {
        for (int point = from; point <= to; point++) {
            int link = source;
            for (int i = 0; i < CHARTS && link != NONE; i++) {
                link = sourceOf(link, point);
                if (link == chart) {
                    return true;
                }
            }
        }
        return false;
    }

    // ---- how charts are compared

    private int errorOf(Chart chart, int point, boolean inX) {
        return inX ? chart.x[point] - truth.x[point] : chart.y[point] - truth.y[point];
    }

    private boolean hasTrueName(Chart chart, int point) {
        return chart.name[point] == truth.name[point];
    }

    private int falseNames(Chart chart) {
        int count = 0;
        for (int point = 0; point < POINTS; point++) {
            if (!hasTrueName(chart, point)) {
                count++;
            }
        }
        return count;
    }

    private int shift(Chart chart, int basin, boolean inX) {
        int known = 0;
        int sum = 0;
        for (int point = firstOf(basin); point <= lastOf(basin); point++) {
            if (chart.knows(point)) {
                sum += errorOf(chart, point, inX);
                known++;
            }
        }
        return known > 0 ? sum / known : 0;
    }

    private int residual(Chart chart, int basin) {
        int shiftX = shift(chart, basin, true);
        int shiftY = shift(chart, basin, false);
        int sum = 0;
        for (int point = firstOf(basin); point <= lastOf(basin); point++) {
            if (chart.knows(point)) {
                sum += Math.abs(errorOf(chart, point, true) - shiftX);
                sum += Math.abs(errorOf(chart, point, false) - shiftY);
            }
        }
        return sum;
    }

    private int sharedBy(Chart one, Chart two, int basin) {
        int count = one.islandsWith(two);
        for (int point = firstOf(basin); point <= lastOf(basin); point++) {
            if (shareError(one, two, point)) {
                count++;
            }
            if (one.name[point] == two.name[point] && !hasTrueName(one, point)) {
                count++;
            }
        }
        return count;
    }

    private boolean shareError(Chart one, Chart two, int point) {
        if (!one.knows(point) || !two.knows(point)) {
            return false;
        }
        // Both errors are taken against the same true place: alike errors are alike places.
        boolean alike = one.x[point] == two.x[point] && one.y[point] == two.y[point];
        return alike && (errorOf(one, point, true) != 0 || errorOf(one, point, false) != 0);
    }

    private int chartsWith(int island) {
        int count = 0;
        for (int i = 0; i < chartCount; i++) {
            if (charts[i].hasIsland[island]) {
                count++;
            }
        }
        return count;
    }

    private int highestChartWith(int island) {
        int highest = NONE;
        for (int i = 0; i < chartCount; i++) {
            if (charts[i].hasIsland[island]) {
                highest = i;
            }
        }
        return highest;
    }

    /** The coast as it truly is. */
    private static final class Coast {
        final int[] x = new int[POINTS];
        final int[] y = new int[POINTS];
        final int[] name = new int[POINTS];
        final int[] year = new int[POINTS];

        Coast() {
            for (int point = 0; point < POINTS; point++) {
                name[point] = point + 1;
                year[point] = FIRST_HARBOUR_YEAR;
            }
        }
    }

    private static final class Pilots {
        final int[] turn = new int[PILOTS];
        final int[] error = new int[PILOTS];
        int count = 0;
    }

    /** The reports; what each tells is fixed when it is made, as the coast is from then on. */
    private static final class Log {
        final int[] from = new int[REPORTS];
        final int[] to = new int[REPORTS];
        final int[] x = new int[REPORTS];
        final int[] y = new int[REPORTS];
        int count = 0;
    }

    private static final class Islands {
        final int[] x = new int[ISLANDS];
        final int[] y = new int[ISLANDS];
        final int[] firstChart = new int[ISLANDS];
        int count = 0;
    }

    private static final class Copyist {
        int hand = 0;
        final int[] reading = new int[LAST_NAME + 1];

        Copyist() {
            for (int name = 0; name <= LAST_NAME; name++) {
                reading[name] = name;
            }
        }

        int readingOf(int name) {
            return isName(name) ? reading[name] : name;
        }
    }

    /** The places that one round gives; no chart has them before the round ends. */
    private static final class Round {
        final int[] sumX = new int[POINTS];
        final int[] sumY = new int[POINTS];
        final int[] given = new int[POINTS];

        void begin() {
            for (int point = 0; point < POINTS; point++) {
                sumX[point] = 0;
                sumY[point] = 0;
                given[point] = 0;
            }
        }

        void give(int point, int x, int y) {
            sumX[point] += x;
            sumY[point] += y;
            given[point]++;
        }

        /** Puts the means on the chart; answers whether there was one. */
        boolean settle(Chart chart) {
            boolean any = false;
            for (int point = 0; point < POINTS; point++) {
                int places = given[point];
                if (places > 0) {
                    chart.put(point, sumX[point] / places, sumY[point] / places, NONE);
                    any = true;
                }
            }
            return any;
        }
    }

    /** One chart; a point that it doesn't know is NOWHERE and has no source, but keeps its name. */
    private static final class Chart {
        int year = 0;
        final int[] x = new int[POINTS];
        final int[] y = new int[POINTS];
        final int[] name = new int[POINTS];
        final int[] source = new int[POINTS];
        final int[] scale = new int[BASINS];
        final boolean[] hasIsland = new boolean[ISLANDS];

        boolean knows(int point) {
            return x[point] != NOWHERE;
        }

        void put(int point, int atX, int atY, int from) {
            x[point] = atX;
            y[point] = atY;
            source[point] = from;
        }

        void forget(int point) {
            put(point, NOWHERE, NOWHERE, NONE);
        }

        void takeFrame(Chart pattern) {
            for (int basin = 0; basin < BASINS; basin++) {
                scale[basin] = pattern.scale[basin];
            }
            for (int island = 0; island < ISLANDS; island++) {
                hasIsland[island] = pattern.hasIsland[island];
            }
        }

        int knownFrom(int from, int to) {
            int count = 0;
            for (int point = from; point <= to; point++) {
                if (knows(point)) {
                    count++;
                }
            }
            return count;
        }

        int islandCount() {
            return islandsWith(this);
        }

        int islandsWith(Chart other) {
            int count = 0;
            for (int island = 0; island < ISLANDS; island++) {
                if (hasIsland[island] && other.hasIsland[island]) {
                    count++;
                }
            }
            return count;
        }

        boolean fitsMoved(int from, int to, int moveX, int moveY) {
            for (int point = from; point <= to; point++) {
                if (knows(point) && !isPlace(x[point] + moveX, y[point] + moveY)) {
                    return false;
                }
            }
            return true;
        }

        boolean fitsShrunk(int basin, int hundredths) {
            for (int point = firstOf(basin); point <= lastOf(basin); point++) {
                if (knows(point) && !isPlace(shrunk(x[point], hundredths), shrunk(y[point], hundredths))) {
                    return false;
                }
            }
            return true;
        }

        void shrinkPlaces(int basin, int hundredths) {
            for (int point = firstOf(basin); point <= lastOf(basin); point++) {
                if (knows(point)) {
                    x[point] = shrunk(x[point], hundredths);
                    y[point] = shrunk(y[point], hundredths);
                }
            }
        }

        static int shrunk(int number, int hundredths) {
            return number * hundredths / HUNDRED;
        }

        static boolean isPlace(int x, int y) {
            return isWithin(x, PLACE_EDGE) && isWithin(y, PLACE_EDGE);
        }
    }
}
