/** Promises 9 to 14: force, shift, isAdrift, length, tension, onBollard. */
final class BalanceTest {
    public static void main(String[] args) {
        force();
        pullsAreRoundedTowardsZero();
        lengthZeroDoesNotPull();
        pullOfTheFarthestLine();
        shift();
        shiftWithoutLines();
        ends();
        lengthAndTension();
        longestLine();
        onBollard();
        wrongArguments();
        Check.finish();
    }

    // One line of stiffness 1 from point 0 to a bollard at place; its set length is 500 at 400 and -400.
    private static MoorWatch berth(int place, int stiffness) {
        MoorWatch x = new MoorWatch();
        x.addBollard(place, 1000000);
        x.addLine(0, 0, stiffness, 1000000);
        return x;
    }

    private static void force() {
        MoorWatch right = berth(400, 1);
        // d is 600, the length 670, the tension 170.
        Check.due("9: to the right", 152, () -> right.force(0, -200));
        Check.due("9: slack", 0, () -> right.force(0, 200));
        MoorWatch left = berth(-400, 1);
        Check.due("9: to the left", -152, () -> left.force(0, 200));
        left.setWind(1000);
        left.setPassing(3, -700);
        Check.due("9: with wind", 848, () -> left.force(0, 200));
        Check.due("9: with wind and passing ship", 148, () -> left.force(3, 200));
        left.toggle(0);
        Check.due("9: let go", 300, () -> left.force(3, 200));
    }

    // d is 402, the length 501, the tension 1: 402 / 501 of it.
    private static void pullsAreRoundedTowardsZero() {
        Check.due("9: right", 0, () -> berth(400, 1).force(0, -2));
        Check.due("9: left", 0, () -> berth(-400, 1).force(0, 2));
        // Each pull is rounded, not their sum.
        MoorWatch x = berth(-400, 1);
        x.addLine(0, 0, 1, 1);
        x.addLine(0, 0, 1, 1);
        Check.due("9: three of them", 0, () -> x.force(0, 2));
    }

    private static void lengthZeroDoesNotPull() {
        MoorWatch x = berth(0, 100);
        x.setTide(0, -200);
        x.setLoad(0, -100);
        x.setWind(5);
        Check.due("9: length 0", 5, () -> x.force(0, 0));
        x.setLoad(1, -200);
        x.setTide(1, -200);
        Check.due("9: height below 0", 5, () -> x.force(1, 0));
        MoorWatch tended = berth(200, 100);
        tended.setTide(0, -200);
        tended.setLoad(0, -100);
        tended.setWind(1000000);
        Check.due("17: set length 0", 0, () -> tended.tend(0, 0, 0));
        tended.setWind(0);
        Check.due("9: length 0 with set length 0", 0, () -> tended.force(0, 200));
        Check.due("9: length 1", 100, () -> tended.force(0, 199));
    }

    // The farthest line, as short as it can be tended and as long as it can be drawn.
    private static void pullOfTheFarthestLine() {
        MoorWatch x = new MoorWatch();
        x.addBollard(5000, 1000000);
        x.addLine(-5000, 0, 100, 1000000);
        x.setTide(0, -200);
        x.setLoad(0, -100);
        x.setWind(1000000);
        Check.due("17: shortest", 9700, () -> x.tend(0, 0, -100));
        x.setTide(0, 200);
        x.setLoad(0, 200);
        x.setWind(0);
        // d is 10200, the length 10223, the tension 52300.
        Check.due("9: farthest", 52182, () -> x.force(0, -200));
    }

    private static void shift() {
        // At -2 the pull is 402 / 501 of 1, at -3 it is 2 * 403 / 502.
        Check.due("10: lowest shift without a pull", -2, () -> berth(400, 1).shift(0));
        Check.due("10: a stiff line pulls at -2", -1, () -> berth(400, 100).shift(0));
        MoorWatch x = berth(400, 1);
        x.setWind(-100);
        int shift = x.shift(7);
        Check.due("10: no force to the right is left", true, () -> x.force(7, shift) <= 0);
        Check.due("10: it is the lowest such shift", true, () -> x.force(7, shift - 1) > 0);
        x.setPassing(7, 100);
        Check.due("10: passing ship against the wind", -2, () -> x.shift(7));
        Check.due("10: only in its hour", shift, () -> x.shift(8));
    }

    private static void shiftWithoutLines() {
        MoorWatch x = new MoorWatch();
        Check.due("10: calm", -200, () -> x.shift(0));
        Check.due("11: calm", false, () -> x.isAdrift(0));
        x.setWind(1);
        Check.due("10: wind to the right", 200, () -> x.shift(0));
        Check.due("11: wind to the right", true, () -> x.isAdrift(0));
        x.setWind(-1);
        Check.due("10: wind to the left", -200, () -> x.shift(0));
        Check.due("11: wind to the left", true, () -> x.isAdrift(0));
        x.setPassing(1, 1);
        Check.due("11: passing ship", false, () -> x.isAdrift(1));
        x.setPassing(1, 2);
        Check.due("11: stronger passing ship", true, () -> x.isAdrift(1));
        Check.due("10: stronger passing ship", 200, () -> x.shift(1));
    }

    private static void ends() {
        MoorWatch left = berth(-400, 1);
        left.setWind(152);
        Check.due("10: just held at 200", 200, () -> left.shift(0));
        Check.due("11: just held at 200", false, () -> left.isAdrift(0));
        left.setWind(153);
        Check.due("10: not held at 200", 200, () -> left.shift(0));
        Check.due("11: not held at 200", true, () -> left.isAdrift(0));
        left.setWind(151);
        // At 198 d is -598, the length 669, the tension 169 and the pull -151, too; at 197 it is -150.
        Check.due("10: held at 198", 198, () -> left.shift(0));
        Check.due("11: held at 198", false, () -> left.isAdrift(0));
        MoorWatch right = berth(400, 1);
        right.setWind(-152);
        Check.due("10: just held at -200", -200, () -> right.shift(0));
        Check.due("11: just held at -200", false, () -> right.isAdrift(0));
        right.setWind(-153);
        Check.due("10: not held at -200", -200, () -> right.shift(0));
        Check.due("11: not held at -200", true, () -> right.isAdrift(0));
    }

    private static void lengthAndTension() {
        MoorWatch x = berth(400, 7);
        x.setWind(-1000000);
        Check.due("12: at shift -200", 670, () -> x.length(0, 0));
        Check.due("13: at shift -200", 170 * 7, () -> x.tension(0, 0));
        x.setTide(9, 200);
        // d is 600 and the height 500: 781 * 781 is 609961, 782 * 782 is 611524.
        Check.due("12: high water", 781, () -> x.length(0, 9));
        Check.due("13: high water", 281 * 7, () -> x.tension(0, 9));
        x.setWind(1000000);
        Check.due("12: at shift 200", 360, () -> x.length(0, 0));
        Check.due("13: slack", 0, () -> x.tension(0, 0));
        x.setWind(-1000000);
        x.toggle(0);
        Check.due("12: let go", 670, () -> x.length(0, 0));
        Check.due("13: let go", 0, () -> x.tension(0, 0));
    }

    private static void longestLine() {
        MoorWatch x = new MoorWatch();
        x.addBollard(5000, 1000000);
        x.addLine(-5000, 0, 1, 1000000);
        x.setWind(-1000000);
        x.setTide(0, 200);
        x.setLoad(0, 200);
        // 10223 * 10223 is 104509729, d * d + height * height is 104040000 + 490000.
        Check.due("12: longest", 10223, () -> x.length(0, 0));
        MoorWatch square = berth(0, 1);
        square.setWind(-1000000);
        square.setTide(0, -200);
        square.setLoad(0, 50);
        Check.due("12: root is whole", 250, () -> square.length(0, 0));
        square.setTide(0, -200);
        square.setLoad(0, -100);
        Check.due("12: height 0", 200, () -> square.length(0, 0));
    }

    private static void onBollard() {
        MoorWatch x = new MoorWatch();
        x.addBollard(400, 1000000);
        x.addBollard(400, 1000000);
        x.addLine(0, 0, 1, 1000);
        x.addLine(0, 1, 2, 1000);
        x.addLine(0, 0, 4, 1000);
        x.setWind(-1000000);
        Check.due("14: two lines", 170 * 5, () -> x.onBollard(0, 0));
        Check.due("14: one line", 170 * 2, () -> x.onBollard(1, 0));
        x.toggle(2);
        Check.due("14: one let go", 170, () -> x.onBollard(0, 0));
        x.addBollard(0, 1);
        Check.due("14: no line", 0, () -> x.onBollard(2, 47));
    }

    private static void wrongArguments() {
        MoorWatch x = berth(400, 1);
        for (int hour : new int[] {-1, 48, Integer.MIN_VALUE, Integer.MAX_VALUE}) {
            Check.outOfBounds("9: hour " + hour, () -> x.force(hour, 0));
            Check.outOfBounds("9: hour before argument, " + hour, () -> x.force(hour, 201));
            Check.outOfBounds("10: hour " + hour, () -> x.shift(hour));
            Check.outOfBounds("11: hour " + hour, () -> x.isAdrift(hour));
            Check.outOfBounds("12: hour " + hour, () -> x.length(0, hour));
            Check.outOfBounds("13: hour " + hour, () -> x.tension(0, hour));
            Check.outOfBounds("14: hour " + hour, () -> x.onBollard(0, hour));
        }
        Check.badArgument("9: shift too low", () -> x.force(0, -201));
        Check.badArgument("9: shift too high", () -> x.force(0, 201));
        for (int number : new int[] {-1, 1, Integer.MIN_VALUE, Integer.MAX_VALUE}) {
            Check.outOfBounds("12: line " + number, () -> x.length(number, 0));
            Check.outOfBounds("13: line " + number, () -> x.tension(number, 0));
            Check.outOfBounds("14: bollard " + number, () -> x.onBollard(number, 0));
        }
    }
}
