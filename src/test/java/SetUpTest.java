/** Promises 1 to 4: a new object, addBollard, addLine, toggle. */
final class SetUpTest {
    public static void main(String[] args) {
        newObject();
        addBollard();
        addBollardTillFull();
        addLine();
        addLineTillFull();
        toggle();
        Check.finish();
    }

    private static void newObject() {
        MoorWatch x = new MoorWatch();
        Check.outOfBounds("1: no bollard", () -> x.onBollard(0, 0));
        Check.outOfBounds("1: no line", () -> x.length(0, 0));
        for (int hour = 0; hour < 48; hour++) {
            int h = hour;
            Check.due("1: no force in hour " + h, 0, () -> x.force(h, 200));
            Check.due("1: no tide in hour " + h, 0, () -> x.setTide(h, 0));
            Check.due("1: no passing ship in hour " + h, 0, () -> x.setPassing(h, 0));
            Check.due("1: no load in hour " + h, 0, () -> x.setLoad(h, 0));
        }
        Check.due("1: no wind", 0, () -> x.setWind(7));
        Check.due("1: another object has no wind", 0, () -> new MoorWatch().setWind(0));
    }

    private static void addBollard() {
        MoorWatch x = new MoorWatch();
        Check.badArgument("2: place too low", () -> x.addBollard(-5001, 1));
        Check.badArgument("2: place too high", () -> x.addBollard(5001, 1));
        Check.badArgument("2: limit too low", () -> x.addBollard(0, 0));
        Check.badArgument("2: limit too high", () -> x.addBollard(0, 1000001));
        Check.badArgument("2: least int", () -> x.addBollard(Integer.MIN_VALUE, Integer.MIN_VALUE));
        Check.outOfBounds("2: nothing was added", () -> x.onBollard(0, 0));
        Check.due("2: first", 0, () -> x.addBollard(-5000, 1));
        Check.due("2: second", 1, () -> x.addBollard(5000, 1000000));
        Check.due("2: same place again", 2, () -> x.addBollard(5000, 1));
    }

    private static void addBollardTillFull() {
        MoorWatch x = new MoorWatch();
        for (int bollard = 0; bollard < 6; bollard++) {
            int place = bollard;
            Check.due("2: bollard " + place, place, () -> x.addBollard(place, 5));
        }
        Check.badState("2: seventh", () -> x.addBollard(0, 5));
        Check.badArgument("2: argument before state", () -> x.addBollard(0, 0));
        Check.due("2: still six", 0, () -> x.onBollard(5, 0));
        Check.outOfBounds("2: no seventh", () -> x.onBollard(6, 0));
    }

    private static void addLine() {
        MoorWatch x = new MoorWatch();
        Check.outOfBounds("3: no bollard yet", () -> x.addLine(0, 0, 1, 1));
        x.addBollard(400, 1000);
        x.setTide(0, 100);
        x.setLoad(0, 50);
        Check.outOfBounds("3: bollard -1", () -> x.addLine(0, -1, 1, 1));
        Check.outOfBounds("3: bollard 1", () -> x.addLine(0, 1, 1, 1));
        Check.outOfBounds("3: bollard before argument", () -> x.addLine(5001, 1, 1, 1));
        Check.badArgument("3: point too low", () -> x.addLine(-5001, 0, 1, 1));
        Check.badArgument("3: point too high", () -> x.addLine(5001, 0, 1, 1));
        Check.badArgument("3: stiffness too low", () -> x.addLine(0, 0, 0, 1));
        Check.badArgument("3: stiffness too high", () -> x.addLine(0, 0, 101, 1));
        Check.badArgument("3: strength too low", () -> x.addLine(0, 0, 1, 0));
        Check.badArgument("3: strength too high", () -> x.addLine(0, 0, 1, 1000001));
        Check.outOfBounds("3: nothing was added", () -> x.tension(0, 0));
        Check.due("3: first", 0, () -> x.addLine(0, 0, 1, 1));
        Check.due("3: second", 1, () -> x.addLine(-5000, 0, 100, 1000000));
        Check.due("3: third", 2, () -> x.addLine(5000, 0, 1, 1));
        setLengthIsThatOfCalmWater();
    }

    // With shift 0 and height 450 the length is sqrt(400 * 400 + 450 * 450), 602, so 102 above the set 500.
    private static void setLengthIsThatOfCalmWater() {
        MoorWatch x = new MoorWatch();
        x.addBollard(400, 1000);
        x.setTide(0, 100);
        x.setLoad(0, 50);
        x.addLine(0, 0, 1, 1000);
        Check.due("3: pull over the set length", 102 * 400 / 602, () -> x.force(0, 0));
        x.setTide(0, -50);
        Check.due("3: no pull at the set length", 0, () -> x.force(0, 0));
    }

    private static void addLineTillFull() {
        MoorWatch x = new MoorWatch();
        x.addBollard(0, 1);
        for (int line = 0; line < 10; line++) {
            int n = line;
            Check.due("3: line " + n, n, () -> x.addLine(n, 0, 1, 1));
        }
        Check.badState("3: eleventh", () -> x.addLine(0, 0, 1, 1));
        Check.outOfBounds("3: bollard before state", () -> x.addLine(0, 1, 1, 1));
        Check.badArgument("3: argument before state", () -> x.addLine(0, 0, 0, 1));
        Check.outOfBounds("3: no eleventh", () -> x.toggle(10));
        Check.due("3: tenth stands", false, () -> x.toggle(9));
    }

    private static void toggle() {
        MoorWatch x = new MoorWatch();
        Check.outOfBounds("4: no line", () -> x.toggle(0));
        x.addBollard(400, 1000);
        x.addLine(0, 0, 1, 1000);
        x.addLine(0, 0, 1, 1000);
        Check.outOfBounds("4: line -1", () -> x.toggle(-1));
        Check.outOfBounds("4: line 2", () -> x.toggle(2));
        Check.due("4: two pulls", 2 * 152, () -> x.force(0, -200));
        Check.due("4: let go", false, () -> x.toggle(0));
        Check.due("4: one pull", 152, () -> x.force(0, -200));
        Check.due("4: a line let go has no tension", 0, () -> x.tension(0, 0));
        Check.due("4: made fast", true, () -> x.toggle(0));
        Check.due("4: its set length is kept", 2 * 152, () -> x.force(0, -200));
    }
}
