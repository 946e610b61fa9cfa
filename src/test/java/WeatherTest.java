/** Promises 5 to 8: setTide, setLoad, setWind, setPassing. */
final class WeatherTest {
    public static void main(String[] args) {
        setTide();
        setLoad();
        setWind();
        setPassing();
        Check.finish();
    }

    private static MoorWatch berth() {
        MoorWatch x = new MoorWatch();
        x.addBollard(400, 1000000);
        x.addLine(0, 0, 1, 1000000);
        return x;
    }

    // The pull of the berth's line with shift 0, by the height of an hour.
    private static int pull(int height) {
        int length = (int) Math.floor(Math.sqrt(400.0 * 400 + (double) height * height));
        return Math.max(0, length - 500) * 400 / length;
    }

    private static void setTide() {
        MoorWatch x = berth();
        Check.outOfBounds("5: hour -1", () -> x.setTide(-1, 0));
        Check.outOfBounds("5: hour 48", () -> x.setTide(48, 0));
        Check.outOfBounds("5: hour before argument", () -> x.setTide(48, 201));
        Check.badArgument("5: too low", () -> x.setTide(0, -201));
        Check.badArgument("5: too high", () -> x.setTide(0, 201));
        Check.due("5: lowest", 0, () -> x.setTide(0, -200));
        Check.due("5: highest", 0, () -> x.setTide(47, 200));
        Check.due("5: before", -200, () -> x.setTide(0, 150));
        Check.due("5: rises", pull(450), () -> x.force(0, 0));
        Check.due("5: the next hour stays", 0, () -> x.force(1, 0));
        Check.due("5: last hour", pull(500), () -> x.force(47, 0));
        Check.badArgument("5: refused", () -> x.setTide(0, 1000));
        Check.due("5: refused changes nothing", 150, () -> x.setTide(0, 0));
    }

    private static void setLoad() {
        MoorWatch x = berth();
        Check.outOfBounds("6: hour -1", () -> x.setLoad(-1, 0));
        Check.outOfBounds("6: hour 48", () -> x.setLoad(48, 0));
        Check.outOfBounds("6: hour before argument", () -> x.setLoad(-1, -201));
        Check.badArgument("6: too low", () -> x.setLoad(0, -201));
        Check.badArgument("6: too high", () -> x.setLoad(0, 201));
        Check.due("6: from 10", 0, () -> x.setLoad(10, 200));
        Check.due("6: hour 9 stays", 0, () -> x.force(9, 0));
        Check.due("6: hour 10", pull(500), () -> x.force(10, 0));
        Check.due("6: hour 47", pull(500), () -> x.force(47, 0));
        Check.due("6: from 20", 200, () -> x.setLoad(20, 100));
        Check.due("6: hour 19 stays", pull(500), () -> x.force(19, 0));
        Check.due("6: hour 20", pull(400), () -> x.force(20, 0));
        Check.due("6: from 5 over all", 0, () -> x.setLoad(5, -200));
        Check.due("6: hour 47 over again", -200, () -> x.setLoad(47, 50));
        x.setTide(47, 100);
        Check.due("6: tide and load together", pull(450), () -> x.force(47, 0));
        Check.badArgument("6: refused", () -> x.setLoad(0, 1000));
        Check.due("6: refused changes nothing", -200, () -> x.setLoad(46, 0));
    }

    private static void setWind() {
        MoorWatch x = new MoorWatch();
        Check.badArgument("7: too low", () -> x.setWind(-1000001));
        Check.badArgument("7: too high", () -> x.setWind(1000001));
        Check.due("7: lowest", 0, () -> x.setWind(-1000000));
        Check.due("7: before", -1000000, () -> x.setWind(1000000));
        Check.due("7: first hour", 1000000, () -> x.force(0, 0));
        Check.due("7: last hour", 1000000, () -> x.force(47, -200));
        Check.badArgument("7: refused", () -> x.setWind(Integer.MAX_VALUE));
        Check.due("7: refused changes nothing", 1000000, () -> x.setWind(0));
    }

    private static void setPassing() {
        MoorWatch x = new MoorWatch();
        Check.outOfBounds("8: hour -1", () -> x.setPassing(-1, 0));
        Check.outOfBounds("8: hour 48", () -> x.setPassing(48, 0));
        Check.outOfBounds("8: hour before argument", () -> x.setPassing(48, 1000001));
        Check.badArgument("8: too low", () -> x.setPassing(0, -1000001));
        Check.badArgument("8: too high", () -> x.setPassing(0, 1000001));
        Check.due("8: highest", 0, () -> x.setPassing(5, 1000000));
        Check.due("8: in its hour", 1000000, () -> x.force(5, 0));
        Check.due("8: not the hour after", 0, () -> x.force(6, 0));
        Check.due("8: not the hour before", 0, () -> x.force(4, 0));
        Check.due("8: before", 1000000, () -> x.setPassing(5, -1000000));
        x.setWind(300);
        Check.due("8: with the wind", 300 - 1000000, () -> x.force(5, 0));
        Check.badArgument("8: refused", () -> x.setPassing(5, 2000000));
        Check.due("8: refused changes nothing", -1000000, () -> x.setPassing(5, 0));
    }
}
