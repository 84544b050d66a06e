import java.util.ArrayList;
import java.util.List;
import java.util.SortedSet;
import java.util.TreeMap;
import java.util.TreeSet;

/**
 * The document told a second time, slowly and with the whole Java library: each sheet is made of objects, and
 * each call answers a number, or one of the three refusals.
 */
final class Model {
    static final long INDEX = Long.MIN_VALUE;
    static final long ARGUMENT = Long.MIN_VALUE + 1;
    static final long STATE = Long.MIN_VALUE + 2;

    private record Place(int x, int y, int source) {
    }

    private record Report(int from, int to, int x, int y) {
    }

    private record Island(int x, int y, int sheet) {
    }

    private static final class Sheet {
        final int year;
        final TreeMap<Integer, Place> places = new TreeMap<>();
        final List<Integer> names = new ArrayList<>();
        final List<Integer> scales = new ArrayList<>(List.of(100, 100, 100));
        final SortedSet<Integer> islands = new TreeSet<>();

        Sheet(int year) {
            this.year = year;
        }
    }

    private final int[][] coast = new int[24][];
    private final List<int[]> pilots = new ArrayList<>();
    private final List<Report> reports = new ArrayList<>();
    private final List<Sheet> sheets = new ArrayList<>();
    private final List<Island> islands = new ArrayList<>();
    private final int[] hands = new int[4];
    private final List<TreeMap<Integer, Integer>> readings = new ArrayList<>();

    Model() {
        for (int point = 0; point < 24; point++) {
            coast[point] = new int[] {0, 0, point + 1, 1000};
        }
        for (int copyist = 0; copyist < 4; copyist++) {
            readings.add(new TreeMap<>());
        }
    }

    private static boolean in(int value, int low, int high) {
        return low <= value && value <= high;
    }

    private boolean noSheet(int sheet) {
        return !in(sheet, 0, sheets.size() - 1);
    }

    private static boolean noPoint(int point) {
        return !in(point, 0, 23);
    }

    long coast(int point, int x, int y, int name, int year) {
        if (noPoint(point)) {
            return INDEX;
        }
        if (!in(x, -500, 500) || !in(y, -500, 500) || !in(name, 1, 99) || !in(year, 0, 2000)) {
            return ARGUMENT;
        }
        if (!reports.isEmpty()) {
            return STATE;
        }
        coast[point] = new int[] {x, y, name, year};
        return 0;
    }

    long pilot(int turn, int error) {
        if (!in(turn, -30, 30) || !in(error, -30, 30)) {
            return ARGUMENT;
        }
        if (pilots.size() == 6) {
            return STATE;
        }
        pilots.add(new int[] {turn, error});
        return pilots.size() - 1;
    }

    long report(int pilot, int from, int to) {
        if (!in(pilot, 0, pilots.size() - 1) || noPoint(from) || noPoint(to)) {
            return INDEX;
        }
        if (from == to) {
            return ARGUMENT;
        }
        if (reports.size() == 60) {
            return STATE;
        }
        int dx = coast[to][0] - coast[from][0];
        int dy = coast[to][1] - coast[from][1];
        int turn = pilots.get(pilot)[0];
        int error = pilots.get(pilot)[1];
        int x = dx - hundredth(dy, turn);
        int y = dy + hundredth(dx, turn);
        reports.add(new Report(from, to, x + hundredth(x, error), y + hundredth(y, error)));
        return reports.size() - 1;
    }

    /** Rounded towards 0 by its sign, not by the machine's division. */
    private static int hundredth(int value, int times) {
        long product = (long) value * times;
        long whole = Math.abs(product) / 100;
        return (int) (product < 0 ? -whole : whole);
    }

    long chart(int count, int year) {
        if (!in(count, 1, reports.size()) || !in(year, 0, 2000)) {
            return ARGUMENT;
        }
        if (sheets.size() == 12) {
            return STATE;
        }
        Sheet made = new Sheet(year);
        for (int[] point : coast) {
            made.names.add(point[2]);
        }
        made.places.put(0, new Place(coast[0][0], coast[0][1], -1));
        while (true) {
            TreeMap<Integer, List<Place>> given = new TreeMap<>();
            for (Report told : reports.subList(0, count)) {
                give(made, given, told.from, told.to, told.x, told.y);
                give(made, given, told.to, told.from, -told.x, -told.y);
            }
            if (given.isEmpty()) {
                break;
            }
            given.forEach((point, places) -> made.places.put(point, mean(places)));
        }
        sheets.add(made);
        return sheets.size() - 1;
    }

    private static void give(Sheet made, TreeMap<Integer, List<Place>> given, int from, int to, int x, int y) {
        Place place = made.places.get(from);
        if (place != null && !made.places.containsKey(to)) {
            given.computeIfAbsent(to, any -> new ArrayList<>()).add(new Place(place.x + x, place.y + y, -1));
        }
    }

    private static Place mean(List<Place> places) {
        long x = 0;
        long y = 0;
        for (Place place : places) {
            x += place.x;
            y += place.y;
        }
        return new Place((int) (x / places.size()), (int) (y / places.size()), -1);
    }

    long hand(int copyist, int hand) {
        if (!in(copyist, 0, 3)) {
            return INDEX;
        }
        if (!in(hand, -9, 9)) {
            return ARGUMENT;
        }
        int before = hands[copyist];
        hands[copyist] = hand;
        return before;
    }

    long reads(int copyist, int name, int as) {
        if (!in(copyist, 0, 3)) {
            return INDEX;
        }
        if (!in(name, 1, 99) || !in(as, 1, 99)) {
            return ARGUMENT;
        }
        readings.get(copyist).put(name, as);
        return 0;
    }

    long copy(int sheet, int copyist, int way, int year) {
        if (noSheet(sheet) || !in(copyist, 0, 3)) {
            return INDEX;
        }
        Sheet pattern = sheets.get(sheet);
        if (!in(way, 0, 2) || !in(year, 0, 2000) || year < pattern.year) {
            return ARGUMENT;
        }
        if (sheets.size() == 12) {
            return STATE;
        }
        Sheet made = new Sheet(year);
        pattern.places.forEach((point, place) -> made.places.put(point,
            new Place(drawn(place.x, way, hands[copyist]), drawn(place.y, way, -hands[copyist]), sheet)));
        for (int name : pattern.names) {
            made.names.add(readings.get(copyist).getOrDefault(name, name));
        }
        made.islands.addAll(pattern.islands);
        made.scales.clear();
        made.scales.addAll(pattern.scales);
        sheets.add(made);
        return sheets.size() - 1;
    }

    private static int drawn(int value, int way, int more) {
        return way == 0 ? value : way == 1 ? value - value % 5 : value + more;
    }

    long paste(int sheet, int source, int from, int to) {
        if (noSheet(sheet) || noSheet(source) || noPoint(from) || noPoint(to)) {
            return INDEX;
        }
        if (sheet == source || to < from) {
            return ARGUMENT;
        }
        Sheet into = sheets.get(sheet);
        Sheet giver = sheets.get(source);
        Place here = into.places.get(from);
        Place there = giver.places.get(from);
        int x = here == null || there == null ? 0 : here.x - there.x;
        int y = here == null || there == null ? 0 : here.y - there.y;
        TreeMap<Integer, Place> moved = new TreeMap<>();
        boolean fits = giver.year <= into.year;
        for (int point = from; point <= to; point++) {
            Place place = giver.places.get(point);
            if (place != null) {
                moved.put(point, new Place(place.x + x, place.y + y, source));
                fits &= fits(moved.get(point)) && !links(source, point).contains(sheet);
            }
        }
        if (!fits) {
            return STATE;
        }
        for (int point = from; point <= to; point++) {
            into.places.remove(point);
            into.names.set(point, giver.names.get(point));
        }
        into.places.putAll(moved);
        return moved.size();
    }

    private static boolean fits(Place place) {
        return in(place.x, -9999, 9999) && in(place.y, -9999, 9999);
    }

    private List<Integer> links(int sheet, int point) {
        List<Integer> links = new ArrayList<>();
        links.add(sheet);
        Place place = sheets.get(sheet).places.get(point);
        if (place != null && place.source >= 0) {
            links.addAll(links(place.source, point));
        }
        return links;
    }

    long island(int sheet, int x, int y) {
        if (noSheet(sheet)) {
            return INDEX;
        }
        if (!in(x, -999, 999) || !in(y, -999, 999)) {
            return ARGUMENT;
        }
        if (islands.size() == 20) {
            return STATE;
        }
        sheets.get(sheet).islands.add(islands.size());
        islands.add(new Island(x, y, sheet));
        return islands.size() - 1;
    }

    long exchange(int sheet, int point, int other) {
        if (noSheet(sheet) || noPoint(point) || noPoint(other)) {
            return INDEX;
        }
        List<Integer> names = sheets.get(sheet).names;
        names.set(other, names.set(point, names.get(other)));
        return 0;
    }

    long shrink(int sheet, int basin, int hundredths, boolean isScale) {
        if (noSheet(sheet) || !in(basin, 0, 2)) {
            return INDEX;
        }
        if (!in(hundredths, 50, 200)) {
            return ARGUMENT;
        }
        Sheet changed = sheets.get(sheet);
        if (isScale) {
            changed.scales.set(basin, hundredths);
            return hundredths;
        }
        TreeMap<Integer, Place> shrunk = new TreeMap<>();
        known(changed, basin).forEach((point, place) -> shrunk.put(point,
            new Place(hundredth(place.x, hundredths), hundredth(place.y, hundredths), place.source)));
        if (!shrunk.values().stream().allMatch(Model::fits)) {
            return STATE;
        }
        changed.places.putAll(shrunk);
        return changed.scales.get(basin);
    }

    private static java.util.SortedMap<Integer, Place> known(Sheet sheet, int basin) {
        return sheet.places.subMap(8 * basin, 8 * basin + 8);
    }

    long lose(int sheet, int from, int to) {
        if (noSheet(sheet) || noPoint(from) || noPoint(to)) {
            return INDEX;
        }
        if (to < from) {
            return ARGUMENT;
        }
        java.util.SortedMap<Integer, Place> lost = sheets.get(sheet).places.subMap(from, to + 1);
        int count = lost.size();
        lost.clear();
        return count;
    }

    long paint(int sheet, int island) {
        if (noSheet(sheet) || !in(island, 0, islands.size() - 1)) {
            return INDEX;
        }
        return sheets.get(sheet).islands.remove(island) ? 1 : 0;
    }

    long told(int report, boolean inX) {
        if (!in(report, 0, reports.size() - 1)) {
            return INDEX;
        }
        return inX ? reports.get(report).x : reports.get(report).y;
    }

    long at(int sheet, int point, int what) {
        if (noSheet(sheet) || noPoint(point)) {
            return INDEX;
        }
        if (!in(what, 0, 5)) {
            return ARGUMENT;
        }
        if (what == 2) {
            return sheets.get(sheet).names.get(point);
        }
        Place place = sheets.get(sheet).places.get(point);
        if (place == null) {
            return what == 3 ? -1 : 100000;
        }
        int[] all = {place.x, place.y, 0, place.source, place.x - coast[point][0], place.y - coast[point][1]};
        return all[what];
    }

    long chain(int sheet, int point, int place) {
        if (noSheet(sheet) || noPoint(point) || place < 0) {
            return INDEX;
        }
        List<Integer> links = sheets.get(sheet).places.containsKey(point) ? links(sheet, point) : List.of();
        return place < links.size() ? links.get(place) : -1;
    }

    long of(int sheet, int what) {
        if (noSheet(sheet)) {
            return INDEX;
        }
        if (!in(what, 0, 6)) {
            return ARGUMENT;
        }
        Sheet asked = sheets.get(sheet);
        int wrong = 0;
        for (int point = 0; point < 24; point++) {
            wrong += asked.names.get(point) == coast[point][2] ? 0 : 1;
        }
        int[] all = {asked.year, asked.places.size(), asked.islands.size(),
            asked.scales.get(0), asked.scales.get(1), asked.scales.get(2), wrong};
        return all[what];
    }

    long ofIsland(int island, int what) {
        if (!in(island, 0, islands.size() - 1)) {
            return INDEX;
        }
        if (!in(what, 0, 4)) {
            return ARGUMENT;
        }
        TreeSet<Integer> on = new TreeSet<>();
        for (int sheet = 0; sheet < sheets.size(); sheet++) {
            if (sheets.get(sheet).islands.contains(island)) {
                on.add(sheet);
            }
        }
        Island drawn = islands.get(island);
        int[] all = {on.size(), drawn.x, drawn.y, drawn.sheet, on.isEmpty() ? -1 : on.last()};
        return all[what];
    }

    long fit(int sheet, int basin, int what) {
        if (noSheet(sheet) || !in(basin, 0, 2)) {
            return INDEX;
        }
        if (!in(what, 0, 2)) {
            return ARGUMENT;
        }
        List<Place> errors = new ArrayList<>();
        known(sheets.get(sheet), basin).forEach((point, place) -> errors.add(error(point, place)));
        if (errors.isEmpty()) {
            return 0;
        }
        Place shift = mean(errors);
        long residual = 0;
        for (Place error : errors) {
            residual += Math.abs(error.x - shift.x) + Math.abs(error.y - shift.y);
        }
        return what == 0 ? shift.x : what == 1 ? shift.y : residual;
    }

    private Place error(int point, Place place) {
        return new Place(place.x - coast[point][0], place.y - coast[point][1], -1);
    }

    long shared(int sheet, int other, int basin) {
        if (noSheet(sheet) || noSheet(other) || !in(basin, 0, 2)) {
            return INDEX;
        }
        Sheet one = sheets.get(sheet);
        Sheet two = sheets.get(other);
        long count = one.islands.stream().filter(two.islands::contains).count();
        Place none = new Place(0, 0, -1);
        for (int point = 8 * basin; point < 8 * basin + 8; point++) {
            Place here = one.places.get(point);
            Place there = two.places.get(point);
            if (here != null && there != null && error(point, here).equals(error(point, there))
                && !error(point, here).equals(none)) {
                count++;
            }
            int name = one.names.get(point);
            if (name == two.names.get(point) && name != coast[point][2]) {
                count++;
            }
        }
        return count;
    }

    long kin(int sheet, int basin) {
        if (noSheet(sheet) || !in(basin, 0, 2)) {
            return INDEX;
        }
        int kin = -1;
        for (int other = sheet - 1; other >= 0; other--) {
            long count = shared(sheet, other, basin);
            if (count > 0 && (kin < 0 || count >= shared(sheet, kin, basin))) {
                kin = other;
            }
        }
        return kin;
    }

    long date(int sheet, int basin) {
        if (noSheet(sheet) || !in(basin, 0, 2)) {
            return INDEX;
        }
        TreeSet<Integer> years = new TreeSet<>(List.of(-1));
        for (int point = 8 * basin; point < 8 * basin + 8; point++) {
            if (sheets.get(sheet).names.get(point) == coast[point][2]) {
                years.add(coast[point][3]);
            }
        }
        return years.last();
    }
}
