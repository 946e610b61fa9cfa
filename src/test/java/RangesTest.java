import java.util.LinkedHashMap;
import java.util.Map;
import java.util.function.Supplier;

/**
 * Promises 2 to 19, argument by argument: the least and the greatest value are taken, and the values just beyond both
 * ends are refused with the exception that is due, in every berth that the call fits, with nothing changed afterwards.
 */
final class RangesTest {
    private interface CallWith {
        Object answer(MoorWatch x, int value);
    }

    private static final String[] ALL = {"empty", "bare", "some", "full"};
    private static final String[] WITH_BOLLARDS = {"bare", "some", "full"};
    private static final String[] WITH_LINES = {"some", "full"};

    public static void main(String[] args) {
        addBollard();
        addLine();
        toggle();
        setTide();
        setLoad();
        setWind();
        setPassing();
        force();
        hoursOfWhatIsAskedAlone();
        lengthTensionOnBollard();
        firstUnsafe();
        tend();
        tendAll();
        plan();
        Check.finish();
    }

    private static Supplier<MoorWatch> berth(String name) {
        Map<String, Supplier<MoorWatch>> berths = new LinkedHashMap<>();
        berths.put("empty", Berths::empty);
        berths.put("bare", Berths::bare);
        berths.put("some", Berths::some);
        berths.put("full", Berths::full);
        return berths.get(name);
    }

    /** The values just beyond both ends, and the ints farthest beyond. */
    private static void refusedBeyond(int least, int greatest, String what, String due, String[] in, CallWith call) {
        for (int value : new int[] {least - 1, greatest + 1, Integer.MIN_VALUE, Integer.MAX_VALUE}) {
            for (String name : in) {
                Check.refused(what + " " + value + ", " + name, due, berth(name), x -> call.answer(x, value));
            }
        }
    }

    private static void hourRefused(String what, String[] in, CallWith call) {
        refusedBeyond(0, 47, what + " hour", Check.INDEX, in, call);
    }

    // Empty has no line, bare neither; some has three, full has ten.
    private static void lineRefused(String what, CallWith call) {
        refusedBeyond(0, -1, what + " line", Check.INDEX, new String[] {"empty", "bare"}, call);
        refusedBeyond(0, 2, what + " line", Check.INDEX, new String[] {"some"}, call);
        refusedBeyond(0, 9, what + " line", Check.INDEX, new String[] {"full"}, call);
    }

    private static void bollardRefused(String what, CallWith call) {
        refusedBeyond(0, -1, what + " bollard", Check.INDEX, new String[] {"empty"}, call);
        refusedBeyond(0, 1, what + " bollard", Check.INDEX, new String[] {"bare", "some"}, call);
        refusedBeyond(0, 5, what + " bollard", Check.INDEX, new String[] {"full"}, call);
    }

    private static void addBollard() {
        refusedBeyond(-5000, 5000, "2: place", Check.ARGUMENT, ALL, (x, place) -> x.addBollard(place, 1));
        refusedBeyond(1, 1000000, "2: limit", Check.ARGUMENT, ALL, (x, limit) -> x.addBollard(0, limit));
        Check.refused("2: six bollards", Check.STATE, Berths::full, x -> x.addBollard(0, 1));
        Check.refused("2: six bollards, least", Check.STATE, Berths::full, x -> x.addBollard(-5000, 1));
        Check.refused("2: six bollards, greatest", Check.STATE, Berths::full, x -> x.addBollard(5000, 1000000));
        for (int place : new int[] {-5000, -4999, 0, 4999, 5000}) {
            MoorWatch x = new MoorWatch();
            Check.due("2: first, place " + place, 0, () -> x.addBollard(place, 1));
            Check.due("2: second, limit 1000000", 1, () -> x.addBollard(place, 1000000));
            x.addLine(0, 0, 1, 1);
            x.setWind(1000000);
            Check.due("2: taken is place " + place, root(place - 200, 300), () -> x.length(0, 0));
        }
        // The limits themselves: TermsTest, bollardAtMostItsLimit.
    }

    private static int root(long d, long height) {
        long root = 0;
        while ((root + 1) * (root + 1) <= d * d + height * height) {
            root++;
        }
        return (int) root;
    }

    private static void addLine() {
        bollardRefused("3:", (x, bollard) -> x.addLine(0, bollard, 1, 1));
        refusedBeyond(-5000, 5000, "3: point", Check.ARGUMENT, WITH_BOLLARDS, (x, p) -> x.addLine(p, 0, 1, 1));
        refusedBeyond(1, 100, "3: stiffness", Check.ARGUMENT, WITH_BOLLARDS, (x, s) -> x.addLine(0, 0, s, 1));
        refusedBeyond(1, 1000000, "3: strength", Check.ARGUMENT, WITH_BOLLARDS, (x, s) -> x.addLine(0, 0, 1, s));
        Check.refused("3: ten lines", Check.STATE, Berths::full, x -> x.addLine(0, 0, 1, 1));
        Check.refused("3: ten lines, least", Check.STATE, Berths::full, x -> x.addLine(-5000, 0, 1, 1));
        Check.refused("3: ten lines, greatest", Check.STATE, Berths::full, x -> x.addLine(5000, 5, 100, 1000000));
        for (int point : new int[] {-5000, -4999, 0, 4999, 5000}) {
            MoorWatch x = Berths.bare();
            Check.due("3: point " + point, 0, () -> x.addLine(point, 1, 1, 1));
            x.setWind(1000000);
            Check.due("3: taken is point " + point, root(-600 - point - 200, 300), () -> x.length(0, 0));
        }
        for (int stiffness : new int[] {1, 2, 99, 100}) {
            MoorWatch x = Berths.blownTo(600, 300, stiffness);
            Check.due("3: taken is stiffness " + stiffness, 170 * stiffness, () -> x.tension(0, 0));
        }
        firstAndLastBollard();
        setLengthOfANewLine();
        // The strengths themselves: TermsTest, fiftyFiveHundredths.
    }

    private static void firstAndLastBollard() {
        MoorWatch x = new MoorWatch();
        for (int bollard = 0; bollard < 6; bollard++) {
            x.addBollard(400 + bollard, 1);
        }
        Check.due("3: on the last bollard", 0, () -> x.addLine(0, 5, 1, 1));
        Check.due("3: on the first bollard", 1, () -> x.addLine(0, 0, 3, 1));
        x.setWind(-1000000);
        Check.due("3: on the last bollard, tension", root(605, 300) - root(405, 300), () -> x.onBollard(5, 0));
        Check.due("3: on the first bollard, tension", 3 * 170, () -> x.onBollard(0, 0));
        Check.due("3: on a bollard between", 0, () -> x.onBollard(3, 0));
    }

    // Its length with the shift 0, when tide and load are 0, whatever weather there is.
    private static void setLengthOfANewLine() {
        for (int wind : new int[] {-1000000, 0, 1000000}) {
            MoorWatch x = new MoorWatch();
            x.addBollard(400, 1000000);
            x.setWind(wind);
            Berths.setHeight(x, 0, 700);
            x.addLine(0, 0, 1, 1);
            Berths.setHeight(x, 0, 300);
            x.setWind(-1000000);
            Check.due("3: set length is 500", 670 - 500, () -> x.tension(0, 0));
        }
    }

    private static void toggle() {
        lineRefused("4:", (x, line) -> x.toggle(line));
        MoorWatch x = Berths.full();
        Check.due("4: first line, let go before", true, () -> x.toggle(0));
        Check.due("4: first line again", false, () -> x.toggle(0));
        Check.due("4: last line", false, () -> x.toggle(9));
        Check.due("4: last line again", true, () -> x.toggle(9));
        Check.due("4: the line before the last", false, () -> x.toggle(8));
        Check.asks("4: twice, with its set length", true, Berths::full, y -> {
            y.toggle(9);
            return y.toggle(9);
        });
        Check.asks("4: twice, with its set length, a line let go before", false, Berths::some, y -> {
            y.toggle(1);
            return y.toggle(1);
        });
    }

    private static void setTide() {
        hourRefused("5:", ALL, (x, hour) -> x.setTide(hour, 1));
        refusedBeyond(-200, 200, "5: tide", Check.ARGUMENT, ALL, (x, tide) -> x.setTide(47, tide));
        for (int hour : new int[] {0, 47}) {
            MoorWatch x = Berths.blownTo(0, 300, 1);
            Check.due("5: lowest in hour " + hour, 0, () -> x.setTide(hour, -200));
            Check.due("5: lowest taken", 100, () -> x.length(0, hour));
            Check.due("5: highest in hour " + hour, -200, () -> x.setTide(hour, 200));
            Check.due("5: highest taken", 500, () -> x.length(0, hour));
            Check.due("5: the hour before or after stays", 300, () -> x.length(0, hour == 0 ? 1 : 46));
            Check.due("5: back", 200, () -> x.setTide(hour, 0));
        }
        Check.asks("5: the tide that there is", 40, Berths::some, x -> x.setTide(0, 40));
    }

    private static void setLoad() {
        hourRefused("6:", ALL, (x, hour) -> x.setLoad(hour, 1));
        refusedBeyond(-200, 200, "6: load", Check.ARGUMENT, ALL, (x, load) -> x.setLoad(0, load));
        MoorWatch x = Berths.blownTo(0, 300, 1);
        Check.due("6: lowest from hour 0 on", 0, () -> x.setLoad(0, -200));
        Check.due("6: first hour", 100, () -> x.length(0, 0));
        Check.due("6: last hour", 100, () -> x.length(0, 47));
        Check.due("6: highest from hour 47 on", -200, () -> x.setLoad(47, 200));
        Check.due("6: last hour alone", 500, () -> x.length(0, 47));
        Check.due("6: the hour before the last", 100, () -> x.length(0, 46));
        Check.due("6: from hour 1 on", -200, () -> x.setLoad(1, 7));
        Check.due("6: hour 0 stays", 100, () -> x.length(0, 0));
        Check.due("6: hour 1", 307, () -> x.length(0, 1));
        Check.due("6: hour 47 is a later one, too", 7, () -> x.setLoad(47, 0));
        Check.asks("6: the load that there is", -20, Berths::some, y -> y.setLoad(30, -20));
    }

    private static void setWind() {
        refusedBeyond(-1000000, 1000000, "7: wind", Check.ARGUMENT, ALL, (x, wind) -> x.setWind(wind));
        MoorWatch x = new MoorWatch();
        Check.due("7: least", 0, () -> x.setWind(-1000000));
        Check.due("7: least taken", -1000000, () -> x.force(47, 0));
        Check.due("7: greatest", -1000000, () -> x.setWind(1000000));
        Check.due("7: greatest taken", 1000000, () -> x.force(0, 0));
        Check.due("7: back", 1000000, () -> x.setWind(0));
        Check.asks("7: the wind that there is", -20, Berths::full, y -> y.setWind(-20));
    }

    private static void setPassing() {
        hourRefused("8:", ALL, (x, hour) -> x.setPassing(hour, 1));
        refusedBeyond(-1000000, 1000000, "8: force", Check.ARGUMENT, ALL, (x, force) -> x.setPassing(47, force));
        for (int hour : new int[] {0, 47}) {
            MoorWatch x = new MoorWatch();
            Check.due("8: least in hour " + hour, 0, () -> x.setPassing(hour, -1000000));
            Check.due("8: least taken", -1000000, () -> x.force(hour, 0));
            Check.due("8: greatest in hour " + hour, -1000000, () -> x.setPassing(hour, 1000000));
            Check.due("8: greatest taken", 1000000, () -> x.force(hour, 0));
            Check.due("8: the hour before or after", 0, () -> x.force(hour == 0 ? 1 : 46, 0));
            Check.due("8: back", 1000000, () -> x.setPassing(hour, 0));
        }
        Check.asks("8: the force that there is", -50, Berths::some, x -> x.setPassing(47, -50));
    }

    private static void force() {
        hourRefused("9:", ALL, (x, hour) -> x.force(hour, 0));
        refusedBeyond(-200, 200, "9: shift", Check.ARGUMENT, ALL, (x, shift) -> x.force(0, shift));
        // With the tension 100 times what the length, at the height 300, is more than 10004.
        int[][] rows = {{-200, root(10200, 300) - 10004, 10200, root(10200, 300)},
            {-199, root(10199, 300) - 10004, 10199, root(10199, 300)}};
        for (int[] row : rows) {
            int pull = 100 * row[1] * row[2] / row[3];
            for (int hour : new int[] {0, 47}) {
                Check.asks("9: shift " + row[0], pull, Berths::stiff, x -> x.force(hour, row[0]));
                Check.asks("9: shift " + -row[0], -pull, Berths::stiff, x -> x.force(hour, -row[0]));
                Check.asks("9: shift 0", 0, Berths::stiff, x -> x.force(hour, 0));
            }
        }
        Check.asks("9: nothing there", 0, Berths::empty, x -> x.force(47, 200));
    }

    private static void hoursOfWhatIsAskedAlone() {
        hourRefused("10:", ALL, (x, hour) -> x.shift(hour));
        hourRefused("11:", ALL, (x, hour) -> x.isAdrift(hour));
        hourRefused("15:", ALL, (x, hour) -> x.isSafe(hour));
        for (int hour : new int[] {0, 47}) {
            Check.asks("10: nothing there", -200, Berths::empty, x -> x.shift(hour));
            Check.asks("11: nothing there", false, Berths::empty, x -> x.isAdrift(hour));
            Check.asks("15: nothing there", true, Berths::empty, x -> x.isSafe(hour));
            Check.asks("10: bollards and wind alone", 200, Berths::bare, x -> x.shift(hour));
            Check.asks("11: bollards and wind alone", true, Berths::bare, x -> x.isAdrift(hour));
            Check.asks("15: bollards and wind alone", false, Berths::bare, x -> x.isSafe(hour));
        }
        passingInOneHour(0, 47);
        passingInOneHour(47, 0);
    }

    private static void passingInOneHour(int hour, int calm) {
        MoorWatch x = new MoorWatch();
        x.setPassing(hour, 1);
        Check.due("10: in its hour", 200, () -> x.shift(hour));
        Check.due("10: in another", -200, () -> x.shift(calm));
        Check.due("11: in its hour", true, () -> x.isAdrift(hour));
        Check.due("11: in another", false, () -> x.isAdrift(calm));
        Check.due("15: in its hour", false, () -> x.isSafe(hour));
        Check.due("15: in another", true, () -> x.isSafe(calm));
    }

    private static void lengthTensionOnBollard() {
        lineRefused("12:", (x, line) -> x.length(line, 0));
        hourRefused("12:", WITH_LINES, (x, hour) -> x.length(0, hour));
        lineRefused("13:", (x, line) -> x.tension(line, 0));
        hourRefused("13:", WITH_LINES, (x, hour) -> x.tension(0, hour));
        bollardRefused("14:", (x, bollard) -> x.onBollard(bollard, 0));
        hourRefused("14:", WITH_BOLLARDS, (x, hour) -> x.onBollard(0, hour));
        // Line l has the stiffness l + 1 and hangs at bollard l % 6; d is 600 in the calm hour 0, 0 in hour 47.
        Supplier<MoorWatch> ten = RangesTest::tenLinesBlownAtBothEnds;
        for (int line : new int[] {0, 1, 8, 9}) {
            Check.asks("12: line " + line + ", first hour", 670, ten, x -> x.length(line, 0));
            Check.asks("12: line " + line + ", last hour", 538, ten, x -> x.length(line, 47));
            Check.asks("13: line " + line + ", first hour", 170 * (line + 1), ten, x -> x.tension(line, 0));
            Check.asks("13: line " + line + ", last hour", 38 * (line + 1), ten, x -> x.tension(line, 47));
        }
        Check.asks("14: first bollard, lines 0 and 6", 170 * 8, ten, x -> x.onBollard(0, 0));
        Check.asks("14: last bollard, line 5", 170 * 6, ten, x -> x.onBollard(5, 0));
        Check.asks("14: bollard 3, lines 3 and 9, last hour", 38 * 14, ten, x -> x.onBollard(3, 47));
        Check.asks("14: last bollard, last hour", 38 * 6, ten, x -> x.onBollard(5, 47));
        Check.asks("14: no line on the first bollard", 0, Berths::bare, x -> x.onBollard(0, 0));
        Check.asks("14: no line on the last bollard", 0, Berths::bare, x -> x.onBollard(1, 47));
    }

    // In hour 47 the ship lies at 200 with the height 500: 200 * 200 + 500 * 500 is 290000, 538 * 538 is 289444.
    private static MoorWatch tenLinesBlownAtBothEnds() {
        MoorWatch x = new MoorWatch();
        for (int bollard = 0; bollard < 6; bollard++) {
            x.addBollard(400, 1000000);
        }
        for (int line = 0; line < 10; line++) {
            x.addLine(0, line % 6, line + 1, 1000000);
        }
        x.setWind(-500000);
        x.setPassing(47, 1000000);
        x.setTide(47, 200);
        return x;
    }

    private static void firstUnsafe() {
        hourRefused("16:", ALL, (x, from) -> x.firstUnsafe(from));
        Check.asks("16: nothing there", -1, Berths::empty, x -> x.firstUnsafe(0));
        Check.asks("16: nothing there, last hour", -1, Berths::empty, x -> x.firstUnsafe(47));
        Check.asks("16: adrift in the first hour", 0, Berths::bare, x -> x.firstUnsafe(0));
        Check.asks("16: adrift in the last hour", 47, Berths::bare, x -> x.firstUnsafe(47));
        for (int unsafe = 0; unsafe < 48; unsafe++) {
            MoorWatch x = new MoorWatch();
            int hour = unsafe;
            x.setPassing(hour, 1);
            Check.due("16: only " + hour, hour, () -> x.firstUnsafe(0));
            Check.due("16: only " + hour + ", from itself", hour, () -> x.firstUnsafe(hour));
            int next = Math.min(hour + 1, 47);
            Check.due("16: only " + hour + ", from the next", hour == 47 ? 47 : -1, () -> x.firstUnsafe(next));
        }
    }

    private static void tend() {
        lineRefused("17:", (x, line) -> x.tend(line, 0, 0));
        hourRefused("17:", WITH_LINES, (x, hour) -> x.tend(2, hour, 0));
        refusedBeyond(-100, 100, "17: slack", Check.ARGUMENT, WITH_LINES, (x, slack) -> x.tend(2, 0, slack));
        Check.refused("17: let go, a middle line", Check.STATE, Berths::some, x -> x.tend(1, 0, 0));
        Check.refused("17: let go, the first of ten, last hour", Check.STATE, Berths::full, x -> x.tend(0, 47, 100));
        Supplier<MoorWatch> ten = RangesTest::tenLinesBlownAtBothEnds;
        for (int slack : new int[] {-100, -99, 0, 99, 100}) {
            Check.due("17: first line, first hour", 670 + slack, () -> ten.get().tend(0, 0, slack));
            Check.due("17: last line, last hour", 538 + slack, () -> ten.get().tend(9, 47, slack));
        }
        setLengthIsZeroAtLeast();
    }

    private static void setLengthIsZeroAtLeast() {
        int[][] rows = {{99, -100, 0}, {100, -100, 0}, {101, -100, 1}, {1, -1, 0}, {1, -2, 0}, {1, 0, 1}, {0, 0, 0},
            {0, -1, 0}, {0, -100, 0}, {0, 1, 1}, {0, 100, 100}};
        for (int[] row : rows) {
            MoorWatch x = Berths.blownTo(0, row[0], 3);
            String what = "17: length " + row[0] + ", slack " + row[1];
            Check.due(what, row[2], () -> x.tend(0, 0, row[1]));
            Check.due(what + ", tension", 3 * Math.max(0, row[0] - row[2]), () -> x.tension(0, 0));
            Berths.setHeight(x, 0, 700);
            Check.due(what + ", tension at high water", 3 * (700 - row[2]), () -> x.tension(0, 0));
        }
    }

    private static void tendAll() {
        hourRefused("18:", ALL, (x, hour) -> x.tendAll(hour));
        Check.asks("18: nothing there", 0, Berths::empty, x -> x.tendAll(0));
        Check.asks("18: no lines", 0, Berths::bare, x -> x.tendAll(47));
        Supplier<MoorWatch> ten = RangesTest::tenLinesBlownAtBothEnds;
        for (int hour : new int[] {0, 47}) {
            Check.due("18: all ten lines", 10, () -> ten.get().tendAll(hour));
            Check.due("18: none of ten lines again", 0, () -> tendedTwice(ten.get(), hour));
            Check.due("18: nine of ten lines", 9, () -> tendedBefore(ten.get(), hour, 0));
            Check.due("18: ten lines, one of them by 1", 10, () -> tendedBefore(ten.get(), hour, 1));
            Check.due("18: ten lines, one of them by -1", 10, () -> tendedBefore(ten.get(), hour, -1));
        }
        Check.asks("18: no line is made fast", 0, RangesTest::allLetGo, x -> x.tendAll(0));
    }

    private static int tendedTwice(MoorWatch x, int hour) {
        x.tendAll(hour);
        return x.tendAll(hour);
    }

    private static int tendedBefore(MoorWatch x, int hour, int slack) {
        x.tend(9, hour, slack);
        return x.tendAll(hour);
    }

    private static MoorWatch allLetGo() {
        MoorWatch x = tenLinesBlownAtBothEnds();
        for (int line = 0; line < 10; line++) {
            x.toggle(line);
        }
        return x;
    }

    private static void plan() {
        hourRefused("19: from,", ALL, (x, from) -> x.plan(from, 47));
        hourRefused("19: to,", ALL, (x, to) -> x.plan(0, to));
        for (String name : ALL) {
            Check.refused("19: to 0 from 1, " + name, Check.ARGUMENT, berth(name), x -> x.plan(1, 0));
            Check.refused("19: to 46 from 47, " + name, Check.ARGUMENT, berth(name), x -> x.plan(47, 46));
            Check.refused("19: to 0 from 47, " + name, Check.ARGUMENT, berth(name), x -> x.plan(47, 0));
        }
        for (int hour : new int[] {0, 1, 46, 47}) {
            Check.asks("19: one hour, nothing there", 0, Berths::empty, x -> x.plan(hour, hour));
            Check.asks("19: one hour, adrift", -1, Berths::bare, x -> x.plan(hour, hour));
        }
        Check.asks("19: all hours, nothing there", 0, Berths::empty, x -> x.plan(0, 47));
        Check.asks("19: all hours, adrift", -1, Berths::bare, x -> x.plan(0, 47));
        for (int hour = 0; hour < 48; hour++) {
            planThatFailsInOneHour(hour);
        }
    }

    private static void planThatFailsInOneHour(int hour) {
        MoorWatch x = new MoorWatch();
        x.setPassing(hour, 1);
        Check.due("19: fails in " + hour, -1, () -> x.plan(0, 47));
        Check.due("19: fails in the first hour " + hour, -1, () -> x.plan(hour, 47));
        Check.due("19: fails in the last hour " + hour, -1, () -> x.plan(0, hour));
        if (hour > 0) {
            Check.due("19: ends before " + hour, 0, () -> x.plan(0, hour - 1));
        }
        if (hour < 47) {
            Check.due("19: begins after " + hour, 0, () -> x.plan(hour + 1, 47));
        }
    }
}
