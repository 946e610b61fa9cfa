/**
 * A bench for a ship at a berth: lines between the ship and bollards, the shift at which their pulls
 * balance in each hour, and how seldom the lines must be tended.
 */
public final class MoorWatch {
    private static final int HOURS = 48;
    private static final int MOST_BOLLARDS = 6;
    private static final int MOST_LINES = 10;
    private static final int FARTHEST_PLACE = 5000;
    private static final int GREATEST_LIMIT = 1000000;
    private static final int GREATEST_STIFFNESS = 100;
    private static final int GREATEST_FORCE = 1000000;
    private static final int GREATEST_RISE = 200;
    private static final int GREATEST_SHIFT = 200;
    private static final int GREATEST_SLACK = 100;
    private static final int BASE_HEIGHT = 300;
    private static final int SAFE_HUNDREDTHS = 55;
    // No length reaches twice this: the farthest line is 10200 along the quay and 700 high.
    private static final int TOP_BIT_OF_LENGTH = 8192;
    // There are 401 shifts, and each halving takes at least one of them away.
    private static final int MOST_HALVINGS = 401;

    private final int[] tides;
    private final int[] loads;
    private final int[] passing;
    private int wind;

    private int bollardCount;
    private final int[] bollardPlaces;
    private final int[] bollardLimits;

    private int lineCount;
    private final int[] lineBollards;
    // Neither point nor place ever changes, so a line keeps only the way from its point to its bollard.
    private final int[] lineReaches;
    private final int[] lineStiffnesses;
    private final int[] lineStrengths;
    private final int[] lineSets;
    private final boolean[] lineFast;
    // Where a plan keeps the set lengths that it puts back at its end.
    private final int[] setsBeforePlan;

    public MoorWatch() {
        tides = new int[HOURS];
        loads = new int[HOURS];
        passing = new int[HOURS];
        wind = 0;
        bollardCount = 0;
        bollardPlaces = new int[MOST_BOLLARDS];
        bollardLimits = new int[MOST_BOLLARDS];
        lineCount = 0;
        lineBollards = new int[MOST_LINES];
        lineReaches = new int[MOST_LINES];
        lineStiffnesses = new int[MOST_LINES];
        lineStrengths = new int[MOST_LINES];
        lineSets = new int[MOST_LINES];
        lineFast = new boolean[MOST_LINES];
        setsBeforePlan = new int[MOST_LINES];
    }

    // ---- bollards, lines and weather

    public int addBollard(int place, int limit) throws IllegalArgumentException, IllegalStateException {
        checkRange(place, -FARTHEST_PLACE, FARTHEST_PLACE);
        checkRange(limit, 1, GREATEST_LIMIT);
        if (bollardCount >= MOST_BOLLARDS) {
            throw new IllegalStateException("there are 6 bollards");
        }
        int bollard = bollardCount;
        bollardPlaces[bollard] = place;
        bollardLimits[bollard] = limit;
        bollardCount = bollard + 1;
        return bollard;
    }

    public int addLine(int point, int bollard, int stiffness, int strength)
            throws IndexOutOfBoundsException, IllegalArgumentException, IllegalStateException {
        checkBollard(bollard);
        checkRange(point, -FARTHEST_PLACE, FARTHEST_PLACE);
        checkRange(stiffness, 1, GREATEST_STIFFNESS);
        checkRange(strength, 1, GREATEST_LIMIT);
        if (lineCount >= MOST_LINES) {
            throw new IllegalStateException("there are 10 lines");
        }
        int line = lineCount;
        int reach = bollardPlaces[bollard] - point;
        lineBollards[line] = bollard;
        lineReaches[line] = reach;
        lineStiffnesses[line] = stiffness;
        lineStrengths[line] = strength;
        lineSets[line] = lengthOver(reach, BASE_HEIGHT);
        lineFast[line] = true;
        lineCount = line + 1;
        return line;
    }

    public boolean toggle(int line) throws IndexOutOfBoundsException {
        checkLine(line);
        lineFast[line] = !lineFast[line];
        return lineFast[line];
    }

    public int setTide(int hour, int tide) throws IndexOutOfBoundsException, IllegalArgumentException {
        checkHour(hour);
        checkRange(tide, -GREATEST_RISE, GREATEST_RISE);
        int before = tides[hour];
        tides[hour] = tide;
        return before;
    }

    public int setLoad(int hour, int load) throws IndexOutOfBoundsException, IllegalArgumentException {
        checkHour(hour);
        checkRange(load, -GREATEST_RISE, GREATEST_RISE);
        int before = loads[hour];
        for (int later = hour; later < HOURS; later++) {
            loads[later] = load;
        }
        return before;
    }

    public int setWind(int force) throws IllegalArgumentException {
        checkRange(force, -GREATEST_FORCE, GREATEST_FORCE);
        int before = wind;
        wind = force;
        return before;
    }

    public int setPassing(int hour, int force) throws IndexOutOfBoundsException, IllegalArgumentException {
        checkHour(hour);
        checkRange(force, -GREATEST_FORCE, GREATEST_FORCE);
        int before = passing[hour];
        passing[hour] = force;
        return before;
    }

    // ---- balance

    public int force(int hour, int shift) throws IndexOutOfBoundsException, IllegalArgumentException {
        checkHour(hour);
        checkRange(shift, -GREATEST_SHIFT, GREATEST_SHIFT);
        return forceWith(hour, shift);
    }

    public int shift(int hour) throws IndexOutOfBoundsException {
        checkHour(hour);
        return balanceOf(hour);
    }

    public boolean isAdrift(int hour) throws IndexOutOfBoundsException {
        checkHour(hour);
        return driftsWith(hour, balanceOf(hour));
    }

    public int length(int line, int hour) throws IndexOutOfBoundsException {
        checkLine(line);
        checkHour(hour);
        return lengthWith(line, hour, balanceOf(hour));
    }

    public int tension(int line, int hour) throws IndexOutOfBoundsException {
        checkLine(line);
        checkHour(hour);
        return tensionAtLength(line, lengthWith(line, hour, balanceOf(hour)));
    }

    public int onBollard(int bollard, int hour) throws IndexOutOfBoundsException {
        checkBollard(bollard);
        checkHour(hour);
        return bollardTension(bollard, hour, balanceOf(hour));
    }

    // ---- safety and tending

    public boolean isSafe(int hour) throws IndexOutOfBoundsException {
        checkHour(hour);
        return holdsIn(hour);
    }

    public int firstUnsafe(int from) throws IndexOutOfBoundsException {
        checkHour(from);
        for (int hour = from; hour < HOURS; hour++) {
            if (!holdsIn(hour)) {
                return hour;
            }
        }
        return -1;
    }

    public int tend(int line, int hour, int slack)
            throws IndexOutOfBoundsException, IllegalArgumentException, IllegalStateException {
        checkLine(line);
        checkHour(hour);
        checkRange(slack, -GREATEST_SLACK, GREATEST_SLACK);
        if (!lineFast[line]) {
            throw new IllegalStateException("the line is let go");
        }
        lineSets[line] = Math.max(0, lengthWith(line, hour, balanceOf(hour)) + slack);
        return lineSets[line];
    }

    public int tendAll(int hour) throws IndexOutOfBoundsException {
        checkHour(hour);
        return tendFastLines(hour);
    }

    public int plan(int from, int to) throws IndexOutOfBoundsException, IllegalArgumentException {
        checkHour(from);
        checkHour(to);
        if (to < from) {
            throw new IllegalArgumentException("the last hour is before the first");
        }
        System.arraycopy(lineSets, 0, setsBeforePlan, 0, MOST_LINES);
        int tendings = tendThrough(from, to);
        System.arraycopy(setsBeforePlan, 0, lineSets, 0, MOST_LINES);
        return tendings;
    }

    // ---- what a call may ask

    private static void checkHour(int hour) {
        if (hour < 0 || hour >= HOURS) {
            throw new IndexOutOfBoundsException("no such hour");
        }
    }

    private void checkBollard(int bollard) {
        if (bollard < 0 || bollard >= bollardCount) {
            throw new IndexOutOfBoundsException("no such bollard");
        }
    }

    private void checkLine(int line) {
        if (line < 0 || line >= lineCount) {
            throw new IndexOutOfBoundsException("no such line");
        }
    }

    private static void checkRange(int value, int least, int greatest) {
        if (value < least || value > greatest) {
            throw new IllegalArgumentException("out of range");
        }
    }

    // ---- lengths, tensions and pulls; the callers have looked at line, bollard and hour

    private int heightIn(int hour) {
        return BASE_HEIGHT + tides[hour] + loads[hour];
    }

    // A whole root, bit by bit from the top: no division, and no double that could round up.
    private static int lengthOver(int along, int height) {
        int square = along * along + height * height;
        int root = 0;
        for (int bit = TOP_BIT_OF_LENGTH; bit > 0; bit /= 2) {
            int tried = root + bit;
            if (tried * tried <= square) {
                root = tried;
            }
        }
        return root;
    }

    private int lengthWith(int line, int hour, int shift) {
        return lengthOver(lineReaches[line] - shift, heightIn(hour));
    }

    private int tensionAtLength(int line, int length) {
        if (!lineFast[line]) {
            return 0;
        }
        return lineStiffnesses[line] * Math.max(0, length - lineSets[line]);
    }

    private int pullWith(int line, int hour, int shift) {
        int along = lineReaches[line] - shift;
        int length = lengthOver(along, heightIn(hour));
        if (length <= 0) {
            return 0;
        }
        // A long: no set length, however short, can then carry the product past its end.
        long moment = (long) tensionAtLength(line, length) * along;
        return (int) (moment / length);
    }

    private int bollardTension(int bollard, int hour, int shift) {
        int sum = 0;
        for (int line = 0; line < lineCount; line++) {
            if (lineBollards[line] == bollard) {
                sum += tensionAtLength(line, lengthWith(line, hour, shift));
            }
        }
        return sum;
    }

    // ---- balance of an hour

    private int forceWith(int hour, int shift) {
        int sum = wind + passing[hour];
        for (int line = 0; line < lineCount; line++) {
            sum += pullWith(line, hour, shift);
        }
        return sum;
    }

    private int balanceOf(int hour) {
        int low = -GREATEST_SHIFT;
        int high = GREATEST_SHIFT;
        for (int halving = 0; low < high && halving < MOST_HALVINGS; halving++) {
            int middle = Math.floorDiv(low + high, 2);
            if (forceWith(hour, middle) > 0) {
                low = middle + 1;
            } else {
                high = middle;
            }
        }
        return low;
    }

    private boolean driftsWith(int hour, int shift) {
        if (shift == GREATEST_SHIFT) {
            return forceWith(hour, shift) > 0;
        }
        if (shift == -GREATEST_SHIFT) {
            return forceWith(hour, shift) < 0;
        }
        return false;
    }

    // ---- safety and tending of an hour

    private boolean holdsIn(int hour) {
        int shift = balanceOf(hour);
        return !driftsWith(hour, shift) && linesHold(hour, shift) && bollardsHold(hour, shift);
    }

    private boolean linesHold(int hour, int shift) {
        for (int line = 0; line < lineCount; line++) {
            int tension = tensionAtLength(line, lengthWith(line, hour, shift));
            if (tension * 100 > lineStrengths[line] * SAFE_HUNDREDTHS) {
                return false;
            }
        }
        return true;
    }

    private boolean bollardsHold(int hour, int shift) {
        for (int bollard = 0; bollard < bollardCount; bollard++) {
            if (bollardTension(bollard, hour, shift) > bollardLimits[bollard]) {
                return false;
            }
        }
        return true;
    }

    // The shift is found once, before the first set length changes.
    private int tendFastLines(int hour) {
        int shift = balanceOf(hour);
        int changed = 0;
        for (int line = 0; line < lineCount; line++) {
            if (lineFast[line]) {
                int before = lineSets[line];
                lineSets[line] = lengthWith(line, hour, shift);
                changed += lineSets[line] == before ? 0 : 1;
            }
        }
        return changed;
    }

    private int tendThrough(int from, int to) {
        int tendings = 0;
        for (int hour = from; hour <= to; hour++) {
            if (!holdsIn(hour)) {
                tendFastLines(hour);
                tendings++;
                if (!holdsIn(hour)) {
                    return -1;
                }
            }
        }
        return tendings;
    }
}
