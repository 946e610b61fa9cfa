import java.util.ArrayList;
import java.util.List;
import java.util.Map;
import java.util.TreeMap;

/** The document's terms once more, word by word and with no care for speed, to compare MoorWatch with. */
final class SlowBerth {
    private record Bollard(int place, int limit) {
    }

    private static final class Line {
        int point;
        Bollard bollard;
        int stiffness;
        int strength;
        long set;
        boolean fast = true;
    }

    private final List<Bollard> bollards = new ArrayList<>();
    private final List<Line> lines = new ArrayList<>();
    private final Map<Integer, Integer> tides = new TreeMap<>();
    private final TreeMap<Integer, Integer> loads = new TreeMap<>(Map.of(0, 0));
    private final Map<Integer, Integer> passing = new TreeMap<>();
    private int wind = 0;

    private static void hours(int... hours) {
        for (int hour : hours) {
            need(hour >= 0 && hour <= 47, new IndexOutOfBoundsException());
        }
    }

    private static void range(int value, int least, int greatest) {
        need(least <= value && value <= greatest, new IllegalArgumentException());
    }

    private static void need(boolean holds, RuntimeException otherwise) {
        if (!holds) {
            throw otherwise;
        }
    }

    private Line line(int number) {
        need(number >= 0 && number < lines.size(), new IndexOutOfBoundsException());
        return lines.get(number);
    }

    private Bollard bollard(int number) {
        need(number >= 0 && number < bollards.size(), new IndexOutOfBoundsException());
        return bollards.get(number);
    }

    int addBollard(int place, int limit) {
        range(place, -5000, 5000);
        range(limit, 1, 1000000);
        need(bollards.size() < 6, new IllegalStateException());
        bollards.add(new Bollard(place, limit));
        return bollards.size() - 1;
    }

    int addLine(int point, int bollard, int stiffness, int strength) {
        Line line = new Line();
        line.bollard = bollard(bollard);
        range(point, -5000, 5000);
        range(stiffness, 1, 100);
        range(strength, 1, 1000000);
        need(lines.size() < 10, new IllegalStateException());
        line.point = point;
        line.stiffness = stiffness;
        line.strength = strength;
        line.set = root((long) (line.bollard.place - point) * (line.bollard.place - point) + 90000);
        lines.add(line);
        return lines.size() - 1;
    }

    boolean toggle(int number) {
        Line line = line(number);
        line.fast ^= true;
        return line.fast;
    }

    int setTide(int hour, int tide) {
        hours(hour);
        range(tide, -200, 200);
        Integer before = tides.put(hour, tide);
        return before == null ? 0 : before;
    }

    int setLoad(int hour, int load) {
        hours(hour);
        range(load, -200, 200);
        int before = loads.floorEntry(hour).getValue();
        loads.tailMap(hour).clear();
        loads.put(hour, load);
        return before;
    }

    int setWind(int force) {
        range(force, -1000000, 1000000);
        int before = wind;
        wind = force;
        return before;
    }

    int setPassing(int hour, int force) {
        hours(hour);
        range(force, -1000000, 1000000);
        Integer before = passing.put(hour, force);
        return before == null ? 0 : before;
    }

    private static long root(long square) {
        long root = (long) Math.sqrt((double) square);
        while (root * root > square) {
            root--;
        }
        while ((root + 1) * (root + 1) <= square) {
            root++;
        }
        return root;
    }

    private static long d(Line line, int shift) {
        return line.bollard.place - line.point - shift;
    }

    private long lengthOf(Line line, int hour, int shift) {
        long height = 300 + tides.getOrDefault(hour, 0) + loads.floorEntry(hour).getValue();
        return root(d(line, shift) * d(line, shift) + height * height);
    }

    private long tensionOf(Line line, int hour, int shift) {
        long more = lengthOf(line, hour, shift) - line.set;
        return line.fast && more > 0 ? line.stiffness * more : 0;
    }

    private long forceOf(int hour, int shift) {
        long sum = wind + passing.getOrDefault(hour, 0);
        for (Line line : lines) {
            long length = lengthOf(line, hour, shift);
            sum += length == 0 ? 0 : tensionOf(line, hour, shift) * d(line, shift) / length;
        }
        return sum;
    }

    private int shiftBetween(int hour, int low, int high) {
        if (low >= high) {
            return low;
        }
        int m = (int) Math.floor((low + high) / 2.0);
        return forceOf(hour, m) > 0 ? shiftBetween(hour, m + 1, high) : shiftBetween(hour, low, m);
    }

    private int shiftOf(int hour) {
        return shiftBetween(hour, -200, 200);
    }

    private boolean drifts(int hour) {
        int shift = shiftOf(hour);
        return shift == 200 && forceOf(hour, 200) > 0 || shift == -200 && forceOf(hour, -200) < 0;
    }

    private long tensions(Bollard bollard, int hour) {
        return lines.stream().filter(l -> l.bollard == bollard).mapToLong(l -> tensionOf(l, hour, shiftOf(hour))).sum();
    }

    private boolean safe(int hour) {
        return !drifts(hour)
                && lines.stream().allMatch(l -> 100 * tensionOf(l, hour, shiftOf(hour)) <= 55L * l.strength)
                && bollards.stream().allMatch(b -> tensions(b, hour) <= b.limit);
    }

    long force(int hour, int shift) {
        hours(hour);
        range(shift, -200, 200);
        return forceOf(hour, shift);
    }

    int shift(int hour) {
        hours(hour);
        return shiftOf(hour);
    }

    boolean isAdrift(int hour) {
        hours(hour);
        return drifts(hour);
    }

    long length(int line, int hour) {
        hours(hour);
        return lengthOf(line(line), hour, shiftOf(hour));
    }

    long tension(int line, int hour) {
        hours(hour);
        return tensionOf(line(line), hour, shiftOf(hour));
    }

    long onBollard(int bollard, int hour) {
        hours(hour);
        return tensions(bollard(bollard), hour);
    }

    boolean isSafe(int hour) {
        hours(hour);
        return safe(hour);
    }

    int firstUnsafe(int from) {
        hours(from);
        for (int hour = from; hour < 48; hour++) {
            if (!safe(hour)) {
                return hour;
            }
        }
        return -1;
    }

    long tend(int number, int hour, int slack) {
        Line line = line(number);
        hours(hour);
        range(slack, -100, 100);
        need(line.fast, new IllegalStateException());
        line.set = Math.max(0, lengthOf(line, hour, shiftOf(hour)) + slack);
        return line.set;
    }

    int tendAll(int hour) {
        hours(hour);
        int shift = shiftOf(hour);
        int changed = 0;
        for (Line line : lines) {
            if (line.fast && line.set != lengthOf(line, hour, shift)) {
                line.set = lengthOf(line, hour, shift);
                changed++;
            }
        }
        return changed;
    }

    int plan(int from, int to) {
        hours(from, to);
        need(to >= from, new IllegalArgumentException());
        List<Long> sets = lines.stream().map(l -> l.set).toList();
        int tendings = 0;
        for (int hour = from; hour <= to && tendings >= 0; hour++) {
            if (!safe(hour)) {
                tendAll(hour);
                tendings = safe(hour) ? tendings + 1 : -1;
            }
        }
        for (int line = 0; line < lines.size(); line++) {
            lines.get(line).set = sets.get(line);
        }
        return tendings;
    }
}
