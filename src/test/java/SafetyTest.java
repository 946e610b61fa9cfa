/** Promises 15 to 19: isSafe, firstUnsafe, tend, tendAll, plan. */
final class SafetyTest {
    public static void main(String[] args) {
        safeByStrength();
        safeByBollard();
        adriftIsNotSafe();
        firstUnsafe();
        tend();
        tendWrongly();
        tendAll();
        tendAllTakesTheShiftBefore();
        planCountsTendings();
        planFails();
        planGoesOnWithItsSetLengths();
        planWrongly();
        Check.finish();
    }

    // The wind just lays the ship at shift -200, where one line of stiffness 11 has the tension 170 * 11 = 1870.
    private static MoorWatch berth(int limit, int strength) {
        MoorWatch x = new MoorWatch();
        x.addBollard(400, limit);
        x.addLine(0, 0, 11, strength);
        x.setWind(-1674);
        return x;
    }

    private static void safeByStrength() {
        Check.due("15: tension", 1870, () -> berth(1000000, 3400).tension(0, 0));
        Check.due("15: just 55 hundredths", true, () -> berth(1000000, 3400).isSafe(0));
        Check.due("15: above 55 hundredths", false, () -> berth(1000000, 3399).isSafe(0));
        Check.due("15: let go line is never too weak", true, () -> {
            MoorWatch x = berth(1000000, 1);
            x.setWind(0);
            x.toggle(0);
            return x.isSafe(0);
        });
        Check.due("15: new object", true, () -> new MoorWatch().isSafe(47));
        Check.outOfBounds("15: hour -1", () -> new MoorWatch().isSafe(-1));
        Check.outOfBounds("15: hour 48", () -> new MoorWatch().isSafe(48));
    }

    private static void safeByBollard() {
        Check.due("15: just the limit", true, () -> berth(1870, 1000000).isSafe(0));
        Check.due("15: above the limit", false, () -> berth(1869, 1000000).isSafe(0));
        // Two lines of one bollard are taken together, those of two bollards are not.
        Check.due("15: two lines", false, () -> {
            MoorWatch x = berth(1870, 1000000);
            x.addLine(0, 0, 11, 1000000);
            x.setWind(-2 * 1674);
            return x.isSafe(0);
        });
        Check.due("15: two bollards", true, () -> {
            MoorWatch x = berth(1870, 1000000);
            x.addBollard(400, 1870);
            x.addLine(0, 1, 11, 1000000);
            x.setWind(-2 * 1674);
            return x.isSafe(0);
        });
    }

    private static void adriftIsNotSafe() {
        MoorWatch x = berth(1000000, 1000000);
        Check.due("15: held", true, () -> x.isSafe(0));
        x.setWind(-1675);
        Check.due("15: adrift", false, () -> x.isSafe(0));
        x.setPassing(3, 1);
        Check.due("15: held by a passing ship", true, () -> x.isSafe(3));
    }

    private static void firstUnsafe() {
        MoorWatch x = new MoorWatch();
        Check.outOfBounds("16: hour -1", () -> x.firstUnsafe(-1));
        Check.outOfBounds("16: hour 48", () -> x.firstUnsafe(48));
        Check.due("16: all safe", -1, () -> x.firstUnsafe(0));
        x.setPassing(5, 1);
        x.setPassing(20, -1);
        x.setPassing(47, 1);
        Check.due("16: from 0", 5, () -> x.firstUnsafe(0));
        Check.due("16: from the hour itself", 5, () -> x.firstUnsafe(5));
        Check.due("16: from the next", 20, () -> x.firstUnsafe(6));
        Check.due("16: from 21", 47, () -> x.firstUnsafe(21));
        Check.due("16: from the last", 47, () -> x.firstUnsafe(47));
        x.setPassing(47, 0);
        Check.due("16: none left", -1, () -> x.firstUnsafe(21));
        Check.due("16: the last is safe", -1, () -> x.firstUnsafe(47));
    }

    private static void tend() {
        MoorWatch x = berth(1000000, 1000000);
        Check.due("17: slack", 680, () -> x.tend(0, 0, 10));
        // Now the wind lays the ship at -200 with no tension at all: it is adrift.
        Check.due("17: longer line", 0, () -> x.tension(0, 0));
        Check.due("17: adrift now", true, () -> x.isAdrift(0));
        Check.due("17: most slack", 770, () -> x.tend(0, 1, 100));
        Check.due("17: least slack", 570, () -> x.tend(0, 2, -100));
        Check.due("17: tightened", 1100, () -> x.tension(0, 0));
        lengthOfItsOwnHour();
        setLengthIsZeroAtLeast();
    }

    private static void lengthOfItsOwnHour() {
        MoorWatch x = berth(1000000, 1000000);
        x.setWind(-1000000);
        x.setTide(9, 200);
        Check.due("17: high water", 781, () -> x.tend(0, 9, 0));
        Check.due("17: no tension at high water", 0, () -> x.tension(0, 9));
        Check.due("17: not at low water", 670, () -> x.tend(0, 8, 0));
        Check.due("17: tension at high water", 111 * 11, () -> x.tension(0, 9));
    }

    // A bollard at 200 is right at the point that a ship at shift 200 has there.
    private static void setLengthIsZeroAtLeast() {
        MoorWatch x = new MoorWatch();
        x.addBollard(200, 1000000);
        x.addLine(0, 0, 1, 1000000);
        x.setWind(1000000);
        x.setTide(0, -200);
        x.setLoad(0, -50);
        Check.due("17: length 50", 50, () -> x.length(0, 0));
        Check.due("17: not below 0", 0, () -> x.tend(0, 0, -51));
        Check.due("17: set length is 0", 50, () -> x.tension(0, 0));
        Check.due("17: just 0", 0, () -> x.tend(0, 0, -50));
        Check.due("17: just 1", 1, () -> x.tend(0, 0, -49));
        x.setLoad(0, -100);
        Check.due("17: length 0", 0, () -> x.tend(0, 0, 0));
        Check.due("17: length 0 with slack", 100, () -> x.tend(0, 0, 100));
    }

    private static void tendWrongly() {
        MoorWatch x = berth(1000000, 1000000);
        Check.outOfBounds("17: line -1", () -> x.tend(-1, 0, 0));
        Check.outOfBounds("17: line 1", () -> x.tend(1, 0, 0));
        Check.outOfBounds("17: hour -1", () -> x.tend(0, -1, 0));
        Check.outOfBounds("17: hour 48", () -> x.tend(0, 48, 0));
        Check.badArgument("17: slack too low", () -> x.tend(0, 0, -101));
        Check.badArgument("17: slack too high", () -> x.tend(0, 0, 101));
        x.toggle(0);
        Check.outOfBounds("17: hour before argument and state", () -> x.tend(0, 48, 101));
        Check.badArgument("17: argument before state", () -> x.tend(0, 0, 101));
        Check.badState("17: let go", () -> x.tend(0, 0, 0));
        x.toggle(0);
        Check.due("17: nothing was changed", 1870, () -> x.tension(0, 0));
    }

    private static void tendAll() {
        MoorWatch x = new MoorWatch();
        Check.outOfBounds("18: hour -1", () -> x.tendAll(-1));
        Check.outOfBounds("18: hour 48", () -> x.tendAll(48));
        Check.due("18: no lines", 0, () -> x.tendAll(0));
        x.addBollard(400, 1000000);
        x.addLine(0, 0, 1, 1000000);
        x.addLine(0, 0, 2, 1000000);
        x.addLine(0, 0, 3, 1000000);
        x.setWind(-1000000);
        x.toggle(1);
        Check.due("18: two made fast", 2, () -> x.tendAll(0));
        Check.due("18: no tension left", 0, () -> x.onBollard(0, 0));
        Check.due("18: the same set lengths", 0, () -> x.tendAll(0));
        x.toggle(1);
        Check.due("18: the other keeps its set length", 170 * 2, () -> x.tension(1, 0));
        Check.due("18: only the other changes", 1, () -> x.tendAll(0));
    }

    // Tending the first line alone would let the ship go on to the left before the second is looked at.
    private static void tendAllTakesTheShiftBefore() {
        MoorWatch x = new MoorWatch();
        x.addBollard(400, 1000000);
        x.addLine(0, 0, 1, 1000000);
        x.addLine(-100, 0, 1, 1000000);
        x.setWind(-60);
        int first = x.length(0, 0);
        int second = x.length(1, 0);
        Check.due("18: both", 2, () -> x.tendAll(0));
        x.setWind(-1000000);
        Check.due("18: first set length", 670 - first, () -> x.tension(0, 0));
        // d is 700, the length 761.
        Check.due("18: second set length", 761 - second, () -> x.tension(1, 0));
    }

    // Two lines hold the ship about 0; hours with much water draw them above what they bear.
    private static MoorWatch springs(int strength) {
        MoorWatch x = new MoorWatch();
        x.addBollard(600, 1000000);
        x.addBollard(-600, 1000000);
        x.addLine(200, 0, 10, strength);
        x.addLine(-200, 1, 10, strength);
        return x;
    }

    // At height 500 each is sqrt(400 * 400 + 500 * 500), 640, long with shift 0 and 140 beyond its set length.
    private static void planCountsTendings() {
        MoorWatch x = springs(1000);
        Check.due("19: all safe", 0, () -> x.plan(0, 47));
        x.setTide(5, 200);
        Check.due("15: too much water", false, () -> x.isSafe(5));
        Check.due("19: one tending for all lines", 1, () -> x.plan(0, 47));
        Check.due("19: the hour alone", 1, () -> x.plan(5, 5));
        Check.due("19: before it", 0, () -> x.plan(0, 4));
        Check.due("19: behind it", 0, () -> x.plan(6, 47));
        Check.due("19: changes nothing", false, () -> x.isSafe(5));
        Check.due("19: set lengths stay", 2, () -> x.tendAll(5));
        Check.due("19: nothing is left to tend", 0, () -> x.plan(0, 47));
    }

    private static void planFails() {
        MoorWatch x = springs(1000);
        x.setTide(5, 200);
        x.setPassing(7, 1000000);
        Check.due("19: adrift in hour 7", -1, () -> x.plan(0, 47));
        Check.due("19: ends at hour 7", -1, () -> x.plan(5, 7));
        Check.due("19: ends before hour 7", 1, () -> x.plan(0, 6));
        Check.due("19: a failed plan changes nothing", 2, () -> x.tendAll(5));
        MoorWatch bare = new MoorWatch();
        bare.setPassing(47, 1);
        Check.due("19: no lines, adrift", -1, () -> bare.plan(0, 47));
        Check.due("19: no lines, calm", 0, () -> bare.plan(0, 46));
    }

    // What is tended at high water stays so: the second high water needs nothing, but higher water does.
    private static void planGoesOnWithItsSetLengths() {
        MoorWatch x = springs(1000);
        x.setTide(5, 150);
        x.setTide(9, 150);
        Check.due("19: same water twice", 1, () -> x.plan(0, 47));
        // The lengths at the heights 450, 600 and 700 are 602, 721 and 806; a stretch of 55 is safe.
        x.setLoad(20, 200);
        x.setTide(20, 100);
        x.setTide(30, 200);
        Check.due("19: step by step", 3, () -> x.plan(0, 47));
        Check.due("19: in one step", 1, () -> x.plan(30, 47));
        x.setTide(31, -200);
        Check.due("19: slack is not tended", 3, () -> x.plan(0, 47));
    }

    private static void planWrongly() {
        MoorWatch x = new MoorWatch();
        Check.outOfBounds("19: from -1", () -> x.plan(-1, 5));
        Check.outOfBounds("19: from 48", () -> x.plan(48, 48));
        Check.outOfBounds("19: to 48", () -> x.plan(0, 48));
        Check.outOfBounds("19: to -1 is no hour, whatever from is", () -> x.plan(5, -1));
        Check.outOfBounds("19: from 48 is no hour, whatever to is", () -> x.plan(48, 5));
        Check.badArgument("19: to before from", () -> x.plan(5, 4));
        Check.badArgument("19: to 0 before from 47", () -> x.plan(47, 0));
        Check.due("19: one hour", 0, () -> x.plan(47, 47));
    }
}
