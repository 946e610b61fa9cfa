import java.util.Arrays;

/** The document's "Terms": a test for each sentence that names a boundary, but for the exceptions' order (OrderTest). */
final class TermsTest {
    public static void main(String[] args) {
        placesGrowToTheRight();
        eachOfTheHoursStandsByItself();
        divisionsAreRoundedTowardsZero();
        atMostSixBollards();
        atMostTenLines();
        heightOfAnHour();
        lengthIsTheGreatestWholeNumber();
        tensionUpToTheSetLength();
        tensionOfALineLetGo();
        pullWithTheLengthZero();
        pullOfALineAthwart();
        forceIsTheSumOfAll();
        greatestForce();
        everyShiftIsFound();
        shiftsBeyondTheEnds();
        adriftAtTheEndsAlone();
        fiftyFiveHundredths();
        eachLineOfTen();
        bollardAtMostItsLimit();
        eachBollardOfSix();
        tendingTakesTheShiftBefore();
        tendingLetsTheSetLengthBeTheHoursLength();
        planTendsAllAtOnce();
        planTendsInEachHour();
        planTendsNoLineLetGo();
        planFails();
        planChangesNothing();
        theLastOf512Calls();
        Check.finish();
    }

    private static void placesGrowToTheRight() {
        Check.due("a line to a higher place pulls to the right", true, () -> Berths.oneLine(400, 9).force(0, -200) > 0);
        Check.due("a line to a lower place pulls to the left", true, () -> Berths.oneLine(-400, 9).force(0, 200) < 0);
    }

    private static void eachOfTheHoursStandsByItself() {
        MoorWatch x = new MoorWatch();
        for (int hour = 0; hour < 48; hour++) {
            int h = hour;
            Check.due("tide of hour " + h, 0, () -> x.setTide(h, h + 1));
            Check.due("load of hour " + h, h, () -> x.setLoad(h, h + 1));
            Check.due("passing in hour " + h, 0, () -> x.setPassing(h, h + 1));
        }
        for (int hour = 0; hour < 48; hour++) {
            int h = hour;
            Check.due("tide of hour " + h + " again", h + 1, () -> x.setTide(h, 0));
            Check.due("passing in hour " + h + " again", h + 1, () -> x.setPassing(h, 0));
        }
        for (int hour = 47; hour >= 0; hour--) {
            int h = hour;
            Check.due("load of hour " + h + " again", h + 1, () -> x.setLoad(h, 0));
        }
    }

    // d is 600 and the length 670, so the pull is 600 / 670 of the tension; at d 0 and beyond the line is slack.
    private static void divisionsAreRoundedTowardsZero() {
        for (int more : new int[] {0, 1, 2, 9, 100}) {
            int pull = more * 600 / 670;
            Check.due("to the right, tension " + more, pull, () -> blownWithTension(600, more));
            Check.due("to the left, tension " + more, -pull, () -> blownWithTension(-600, more));
        }
    }

    private static int blownWithTension(int d, int more) {
        MoorWatch x = Berths.blownTo(d, 300, 1);
        x.tend(0, 0, -more);
        x.setWind(0);
        return x.force(0, d > 0 ? -200 : 200);
    }

    private static void atMostSixBollards() {
        MoorWatch x = new MoorWatch();
        for (int bollard = 0; bollard < 6; bollard++) {
            int b = bollard;
            Check.outOfBounds("bollard " + b + " is not there yet", () -> x.onBollard(b, 0));
            Check.due("bollard " + b, b, () -> x.addBollard(b, 1));
            Check.due("bollard " + b + " is there", 0, () -> x.onBollard(b, 0));
        }
        Check.badState("bollard 6", () -> x.addBollard(6, 1));
        Check.outOfBounds("bollard 6 is not there", () -> x.onBollard(6, 0));
    }

    private static void atMostTenLines() {
        MoorWatch x = new MoorWatch();
        x.addBollard(0, 1);
        for (int line = 0; line < 10; line++) {
            int l = line;
            Check.outOfBounds("line " + l + " is not there yet", () -> x.tension(l, 0));
            Check.due("line " + l, l, () -> x.addLine(l, 0, 1, 1));
            Check.due("line " + l + " is there", false, () -> x.toggle(l));
        }
        Check.badState("line 10", () -> x.addLine(10, 0, 1, 1));
        Check.outOfBounds("line 10 is not there", () -> x.tension(10, 0));
    }

    // With d 0 a line is as long as the height, or as the height is below 0.
    private static void heightOfAnHour() {
        int[][] rows = {{0, 0, 300}, {200, 200, 700}, {-200, -200, 100}, {-200, -100, 0}, {-100, -200, 0},
            {-200, -99, 1}, {-200, -101, 1}, {200, -200, 300}, {-200, 200, 300}, {0, 200, 500}, {200, 0, 500},
            {0, -200, 100}, {-200, 0, 100}, {1, 0, 301}, {0, 1, 301}, {-1, 0, 299}, {0, -1, 299}};
        for (int[] row : rows) {
            MoorWatch x = Berths.blownTo(0, 300, 1);
            x.setTide(7, row[0]);
            x.setLoad(7, row[1]);
            Check.due("height with tide " + row[0] + " and load " + row[1], row[2], () -> x.length(0, 7));
            Check.due("height an hour before", 300, () -> x.length(0, 6));
            Check.due("height an hour later", Math.abs(300 + row[1]), () -> x.length(0, 8));
        }
    }

    // d, height, length: the sum of their squares is a square, one less, one more, or two roots more.
    private static void lengthIsTheGreatestWholeNumber() {
        int[][] rows = {{0, 0, 0}, {1, 0, 1}, {0, 1, 1}, {0, -1, 1}, {1, 1, 1}, {1, -1, 1}, {2, 0, 2}, {1, 2, 2},
            {2, 2, 2}, {6, 8, 10}, {3, -4, 5}, {8, 4, 8}, {1, 9, 9}, {70, 70, 98}, {69, 71, 99}, {400, 300, 500},
            {399, 299, 498}, {400, 301, 500}, {401, 300, 500}, {402, 300, 501}, {0, 700, 700}, {0, -100, 100},
            {9991, 600, 10009}, {10197, 404, 10205}, {10110, 318, 10114}, {9290, 682, 9314}, {10198, 639, 10218},
            {10200, 700, 10223}, {10200, 0, 10200}, {10200, -100, 10200}, {8191, 0, 8191}, {8191, 128, 8192},
            {8192, 0, 8192}, {8193, 0, 8193}};
        for (int[] row : rows) {
            String what = "length with height " + row[1] + " and d ";
            Check.due(what + row[0], row[2], () -> Berths.blownTo(row[0], row[1], 1).length(0, 0));
            Check.due(what + -row[0], row[2], () -> Berths.blownTo(-row[0], row[1], 1).length(0, 0));
        }
    }

    private static void tensionUpToTheSetLength() {
        int[][] rows = {{0, 0}, {1, 0}, {100, 0}, {-1, 7}, {-2, 14}, {-100, 700}};
        for (int[] row : rows) {
            MoorWatch x = Berths.blownTo(600, 300, 7);
            Check.due("set length with slack " + row[0], 670 + row[0], () -> x.tend(0, 0, row[0]));
            Check.due("tension with slack " + row[0], row[1], () -> x.tension(0, 0));
            Check.due("on the bollard with slack " + row[0], row[1], () -> x.onBollard(0, 0));
        }
    }

    private static void tensionOfALineLetGo() {
        MoorWatch x = Berths.blownTo(600, 300, 100);
        Check.due("made fast", 17000, () -> x.tension(0, 0));
        x.toggle(0);
        Check.due("let go", 0, () -> x.tension(0, 0));
        Check.due("let go, its length", 670, () -> x.length(0, 0));
        Check.due("let go, on the bollard", 0, () -> x.onBollard(0, 0));
        Check.due("let go, its pull", -1000000, () -> x.force(0, -200));
        x.toggle(0);
        Check.due("made fast again", 17000, () -> x.tension(0, 0));
    }

    // Set length 0: the line then pulls with its stiffness times d, whatever d is.
    private static void pullWithTheLengthZero() {
        MoorWatch x = Berths.blownTo(0, 0, 100);
        Check.due("length 0", 0, () -> x.length(0, 0));
        Check.due("set length 0", 0, () -> x.tend(0, 0, 0));
        x.setWind(0);
        Check.due("pull with the length 0", 0, () -> x.force(0, 200));
        Check.due("pull with the length 1", 100, () -> x.force(0, 199));
        Check.due("pull with the length 400", 40000, () -> x.force(0, -200));
        x.setWind(-9);
        Check.due("the wind with the length 0", -9, () -> x.force(0, 200));
        Check.due("tendAll with the length 0", 0, () -> tendAllAtLengthZero());
    }

    private static int tendAllAtLengthZero() {
        MoorWatch x = Berths.blownTo(0, 0, 100);
        x.tend(0, 0, 0);
        return x.tendAll(0);
    }

    // The set length is 360, so at the height 700 the tension is the stiffness times 340.
    private static void pullOfALineAthwart() {
        int[][] rows = {{1, 0}, {2, 0}, {3, 1}, {100, 48}};
        for (int[] row : rows) {
            MoorWatch right = Berths.blownTo(0, 700, row[0]);
            Check.due("tension with d 0", 340 * row[0], () -> right.tension(0, 0));
            right.setWind(0);
            Check.due("pull with d 0", 0, () -> right.force(0, 200));
            Check.due("pull with d 1", row[1], () -> right.force(0, 199));
            MoorWatch left = Berths.oneLine(-200, row[0]);
            Berths.setHeight(left, 0, 700);
            Check.due("pull with d -1", -row[1], () -> left.force(0, -199));
        }
    }

    private static void forceIsTheSumOfAll() {
        MoorWatch x = Berths.oneLine(400, 1);
        x.addLine(0, 0, 2, 1);
        x.addBollard(-400, 1);
        x.addLine(0, 1, 5, 1);
        Check.due("two lines to the right", 152 + 304, () -> x.force(3, -200));
        Check.due("one line to the left", -761, () -> x.force(3, 200));
        x.setWind(-30);
        Check.due("with wind", 152 + 304 - 30, () -> x.force(3, -200));
        x.setPassing(3, 7);
        Check.due("with a passing ship", 152 + 304 - 30 + 7, () -> x.force(3, -200));
        Check.due("in the hour before", 152 + 304 - 30, () -> x.force(2, -200));
        Check.due("in the hour after", 152 + 304 - 30, () -> x.force(4, -200));
        x.setPassing(3, 30);
        Check.due("wind and passing ship alike", 0, () -> x.force(3, 0));
        // At shift 2 d is -402, the length 501 and the tension 1, of which 402 / 501 pull: rounded, then added.
        MoorWatch rounded = Berths.oneLine(-400, 1);
        rounded.addLine(0, 0, 1, 1);
        rounded.addLine(0, 0, 1, 1);
        Check.due("three pulls, each rounded to 0", 0, () -> rounded.force(0, 2));
    }

    private static void greatestForce() {
        MoorWatch x = new MoorWatch();
        x.setWind(1000000);
        x.setPassing(0, 1000000);
        x.setPassing(1, -1000000);
        Check.due("both to the right", 2000000, () -> x.force(0, 0));
        Check.due("against each other", 0, () -> x.force(1, 0));
        x.setWind(-1000000);
        Check.due("both to the left", -2000000, () -> x.force(1, 0));
        tenLinesWithAllTheirPull(1);
        tenLinesWithAllTheirPull(-1);
    }

    // No line pulls more than one with the way 1071: set length 771, then d 1271, height 700 and length 1451.
    private static void tenLinesWithAllTheirPull(int side) {
        MoorWatch x = tenTightLines(side, 1071);
        x.setWind(1000000 * side);
        x.setPassing(0, 1000000 * side);
        int pull = 100 * (1451 - 771) * 1271 / 1451;
        Check.due("ten lines, wind and passing ship", side * (2000000 + 10 * pull), () -> x.force(0, -200 * side));
        // With the way 300 the set length is 0, and at d 500 and the height 700 the length is 860.
        MoorWatch tension = tenTightLines(side, 300);
        Check.due("the greatest tension", 86000, () -> tension.tension(9, 0));
        Check.due("ten of them on a bollard", 860000, () -> tension.onBollard(0, 0));
    }

    // Tended at their shortest with the least slack, then drawn as far as the water and the shift can draw them.
    private static MoorWatch tenTightLines(int side, int reach) {
        MoorWatch x = new MoorWatch();
        x.addBollard(reach * side, 1000000);
        x.setWind(1000000 * side);
        Berths.setHeight(x, 0, 0);
        for (int line = 0; line < 10; line++) {
            x.addLine(0, 0, 100, 1000000);
            x.tend(line, 0, -100);
        }
        Berths.setHeight(x, 0, 700);
        x.setWind(-1000000 * side);
        return x;
    }

    private static void everyShiftIsFound() {
        for (int shift = -200; shift <= 200; shift++) {
            MoorWatch x = Berths.stiff();
            int pull = x.force(0, shift);
            int due = shift;
            x.setPassing(1, -pull);
            Check.due("the force is 0 at " + due, due, () -> x.shift(1));
            x.setPassing(1, -pull + 1);
            Check.due("the force is 1 at " + due, Math.min(due + 1, 200), () -> x.shift(1));
            Check.due("the force at the shift is not above 0", due == 200, () -> x.force(1, x.shift(1)) > 0);
        }
    }

    private static void shiftsBeyondTheEnds() {
        MoorWatch x = Berths.stiff();
        x.setWind(1000000);
        Check.due("blown to the right", 200, () -> x.shift(0));
        x.setWind(-1000000);
        Check.due("blown to the left", -200, () -> x.shift(0));
        MoorWatch free = new MoorWatch();
        Check.due("force 0 with every shift", -200, () -> free.shift(0));
        free.setPassing(0, -1);
        Check.due("force -1 with every shift", -200, () -> free.shift(0));
        free.setPassing(0, 1);
        Check.due("force 1 with every shift", 200, () -> free.shift(0));
    }

    // The passing ship leaves the given force at the given shift.
    private static void adriftAtTheEndsAlone() {
        int[][] rows = {{200, 0, 200, 0}, {200, 1, 200, 1}, {200, -1, 200, 0}, {199, 0, 199, 0}, {199, 1, 200, 0},
            {-200, 0, -200, 0}, {-200, -1, -200, 1}, {-200, 1, -199, 0}, {-199, 0, -199, 0}, {-199, -1, -199, 0}};
        for (int[] row : rows) {
            MoorWatch x = Berths.stiff();
            x.setPassing(2, row[1] - x.force(2, row[0]));
            String what = "with the force " + row[1] + " at " + row[0];
            Check.due("shift " + what, row[2], () -> x.shift(2));
            Check.due("adrift " + what, row[3] == 1, () -> x.isAdrift(2));
            Check.due("safe " + what, row[3] == 0, () -> x.isSafe(2));
            Check.due("adrift in a calm hour", false, () -> x.isAdrift(1));
        }
    }

    // stiffness, strength, more than the set length, safe
    private static void fiftyFiveHundredths() {
        int[][] rows = {{1, 1, 0, 1}, {1, 1, 1, 0}, {1, 2, 1, 1}, {1, 2, 2, 0}, {1, 3, 2, 0}, {1, 4, 2, 1},
            {1, 19, 11, 0}, {1, 20, 11, 1}, {1, 20, 12, 0}, {1, 99, 55, 0}, {1, 100, 55, 1}, {1, 100, 56, 0},
            {1, 101, 56, 0}, {5, 100, 11, 1}, {8, 100, 7, 0}, {100, 9999, 55, 0}, {100, 10000, 55, 1},
            {100, 10000, 56, 0}, {100, 18181, 100, 0}, {100, 18182, 100, 1}, {100, 1000000, 100, 1}};
        for (int[] row : rows) {
            MoorWatch x = Berths.held(1000000, row[0], row[1], row[2]);
            String what = "tension " + row[0] * row[2] + " with strength " + row[1];
            Check.due(what, row[0] * row[2], () -> x.tension(0, 0));
            Check.due(what + ", adrift", false, () -> x.isAdrift(0));
            Check.due(what + ", safe", row[3] == 1, () -> x.isSafe(0));
        }
    }

    // Ten lines with the tension 33 each, which is 55 hundredths of 60.
    private static void eachLineOfTen() {
        for (int weak = 0; weak < 10; weak++) {
            int[] strengths = filled(10, 60);
            Check.due("ten lines, all just strong enough", true, () -> tenLines(strengths).isSafe(0));
            strengths[weak] = 59;
            Check.due("ten lines, too weak is " + weak, false, () -> tenLines(strengths).isSafe(0));
            int letGo = weak;
            Check.due("too weak but let go is " + weak, true, () -> tenLinesWithout(letGo, strengths).isSafe(0));
        }
    }

    private static MoorWatch tenLines(int[] strengths) {
        return Berths.held(new int[] {1000000}, filled(10, 0), filled(10, 11), strengths, 3);
    }

    private static MoorWatch tenLinesWithout(int letGo, int[] strengths) {
        MoorWatch x = tenLines(strengths);
        x.toggle(letGo);
        x.setWind(0);
        x.setWind(-x.force(0, -200));
        return x;
    }

    private static int[] filled(int length, int value) {
        int[] row = new int[length];
        Arrays.fill(row, value);
        return row;
    }

    private static void bollardAtMostItsLimit() {
        Check.due("tension 1 on the limit 1", true, () -> Berths.held(1, 1, 1000000, 1).isSafe(0));
        Check.due("tension 2 on the limit 1", false, () -> Berths.held(1, 1, 1000000, 2).isSafe(0));
        Check.due("tension 0 on the limit 1", true, () -> Berths.held(1, 1, 1000000, 0).isSafe(0));
        int[][] rows = {{35, 1}, {34, 0}, {36, 1}, {20, 0}, {1000000, 1}};
        for (int[] row : rows) {
            MoorWatch x = twoLinesOnBollard(row[0]);
            Check.due("15 and 20 together", 35, () -> x.onBollard(0, 0));
            Check.due("15 and 20 on the limit " + row[0], row[1] == 1, () -> x.isSafe(0));
        }
        MoorWatch x = twoLinesOnBollard(20);
        x.toggle(0);
        x.setWind(0);
        x.setWind(-x.force(0, -200));
        Check.due("20 alone on the limit 20", true, () -> x.isSafe(0));
    }

    private static MoorWatch twoLinesOnBollard(int limit) {
        return Berths.held(new int[] {limit}, new int[] {0, 0}, new int[] {3, 4}, new int[] {1000, 1000}, 5);
    }

    // One line on each bollard, and a second on the one whose limit is the other's double.
    private static void eachBollardOfSix() {
        for (int bollard = 0; bollard < 6; bollard++) {
            int[] limits = filled(6, 30);
            int[] bollards = {0, 1, 2, 3, 4, 5, bollard};
            limits[bollard] = 60;
            Check.due("all just hold, two lines on " + bollard, true, () -> sixBollards(limits, bollards).isSafe(0));
            limits[bollard] = 59;
            Check.due("two lines too many on " + bollard, false, () -> sixBollards(limits, bollards).isSafe(0));
        }
    }

    private static MoorWatch sixBollards(int[] limits, int[] bollards) {
        return Berths.held(limits, bollards, filled(7, 10), filled(7, 1000), 3);
    }

    // Each line alone holds the ship at another shift than both together.
    private static void tendingTakesTheShiftBefore() {
        MoorWatch x = Berths.oneLine(400, 5);
        x.addLine(-100, 0, 5, 1000000);
        x.setWind(-300);
        int before = x.shift(0);
        int length = x.length(0, 0);
        int other = x.length(1, 0);
        Check.due("tend", length + 12, () -> x.tend(0, 0, 12));
        Check.due("the shift is another then", true, () -> x.shift(0) < before);
        MoorWatch both = Berths.oneLine(400, 5);
        both.addLine(-100, 0, 5, 1000000);
        both.setWind(-300);
        Check.due("tendAll", 2, () -> both.tendAll(0));
        both.setWind(-1000000);
        Check.due("tendAll, the first line", 5 * (670 - length), () -> both.tension(0, 0));
        Check.due("tendAll, the second line", 5 * (761 - other), () -> both.tension(1, 0));
    }

    private static void tendingLetsTheSetLengthBeTheHoursLength() {
        MoorWatch x = Berths.blownTo(600, 300, 1);
        x.setTide(1, 200);
        Check.due("hour 1 without slack", 781, () -> x.tend(0, 1, 0));
        Check.due("again, whatever the set length was", 781, () -> x.tend(0, 1, 0));
        Check.due("hour 0 with slack", 673, () -> x.tend(0, 0, 3));
        Check.due("hour 0 with slack below 0", 667, () -> x.tend(0, 0, -3));
        Check.due("tension in hour 0", 3, () -> x.tension(0, 0));
        Check.due("tension in hour 1", 781 - 667, () -> x.tension(0, 1));
    }

    // Three lines stretch too far in hour 4 and not again in hour 6; a tending of all of them is one.
    private static MoorWatch threeLines() {
        MoorWatch x = Berths.oneLine(400, 10);
        x.addBollard(-400, 1000000);
        x.addLine(0, 1, 10, 1000);
        x.addLine(0, 1, 1, 1000);
        x.setTide(4, 200);
        x.setTide(6, 200);
        return x;
    }

    private static void planTendsAllAtOnce() {
        MoorWatch x = threeLines();
        Check.due("hour 4 is not safe", 4, () -> x.firstUnsafe(0));
        Check.due("hour 6 is not safe", 6, () -> x.firstUnsafe(5));
        Check.due("one tending of three lines, which serves hour 6, too", 1, () -> x.plan(0, 47));
        Check.due("hour 4 alone", 1, () -> x.plan(4, 4));
        Check.due("hour 6 alone, with the set lengths as they are now", 1, () -> x.plan(6, 6));
        Check.due("without hours that are not safe", 0, () -> x.plan(5, 5));
        Check.due("without hours before", 1, () -> x.plan(5, 47));
        Check.due("without hours after", 0, () -> x.plan(0, 3));
        Check.due("tended by hand", 3, () -> x.tendAll(4));
        Check.due("nothing left", 0, () -> x.plan(0, 47));
    }

    // Each hour has 8 more of height, which lengthens each line by 4 at least, and the strength 1 bears no tension.
    private static void planTendsInEachHour() {
        MoorWatch x = new MoorWatch();
        x.addBollard(400, 1000000);
        x.addBollard(-400, 1000000);
        x.addLine(0, 0, 100, 1);
        x.addLine(0, 1, 100, 1);
        for (int hour = 0; hour < 48; hour++) {
            Berths.setHeight(x, hour, 308 + 8 * hour);
        }
        Check.due("each hour anew", 48, () -> x.plan(0, 47));
        Check.due("hours 3 to 11", 9, () -> x.plan(3, 11));
        Check.due("the last hour", 1, () -> x.plan(47, 47));
    }

    // With no line made fast an hour is safe or stays as it is, so the plan has nothing to do or fails.
    private static void planTendsNoLineLetGo() {
        MoorWatch x = threeLines();
        x.toggle(2);
        Check.due("one tending of two lines", 1, () -> x.plan(0, 47));
        x.toggle(2);
        Check.due("the third has its old set length", 3, () -> x.tendAll(4));
        MoorWatch none = threeLines();
        none.toggle(0);
        none.toggle(1);
        none.toggle(2);
        Check.due("no line is made fast, calm", 0, () -> none.plan(0, 47));
        none.setPassing(9, 1);
        Check.due("no line is made fast, adrift", -1, () -> none.plan(0, 47));
    }

    private static void planFails() {
        MoorWatch x = threeLines();
        x.setPassing(9, 1000000);
        Check.due("tending does not hold the ship in hour 9", -1, () -> x.plan(0, 47));
        Check.due("up to hour 9", -1, () -> x.plan(0, 9));
        Check.due("hour 9 alone", -1, () -> x.plan(9, 9));
        Check.due("from hour 9 on", -1, () -> x.plan(9, 47));
        Check.due("up to hour 8", 1, () -> x.plan(0, 8));
        Check.due("from hour 10 on", 0, () -> x.plan(10, 47));
        x.setPassing(9, 0);
        x.setPassing(47, -1000000);
        Check.due("in the last hour", -1, () -> x.plan(0, 47));
        Check.due("but for the last hour", 1, () -> x.plan(0, 46));
        x.setPassing(47, 0);
        x.setPassing(0, -1000000);
        Check.due("in the first hour", -1, () -> x.plan(0, 47));
        Check.due("but for the first hour", 1, () -> x.plan(1, 47));
    }

    private static void planChangesNothing() {
        Check.asks("a plan of no tendings", 0, TermsTest::threeLines, x -> x.plan(7, 47));
        Check.asks("a plan of one tending", 1, TermsTest::threeLines, x -> x.plan(0, 47));
        Check.asks("a plan that fails", -1, Berths::full, x -> x.plan(0, 47));
        Check.asks("a plan that fails at once", -1, Berths::full, x -> x.plan(47, 47));
        Check.asks("a plan without lines", 0, Berths::empty, x -> x.plan(0, 47));
    }

    private static void theLastOf512Calls() {
        MoorWatch x = new MoorWatch();
        for (int call = 1; call <= 512; call++) {
            int wind = call;
            Check.due("call " + call, call - 1, () -> x.setWind(wind));
        }
    }
}
