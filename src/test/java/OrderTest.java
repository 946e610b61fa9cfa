import java.util.ArrayList;
import java.util.List;
import java.util.function.Supplier;

/**
 * "If several apply, IndexOutOfBoundsException goes first, then IllegalArgumentException": every call with every mix of
 * right and wrong arguments, in berths where it is possible and where it is not. "A call that throws an exception
 * changes nothing": each call that is refused leaves the berth as it was.
 */
final class OrderTest {
    /** In the order in which they go: the last of those that apply is thrown. */
    private enum Fault {
        NONE("none"), STATE(Check.STATE), ARGUMENT(Check.ARGUMENT), INDEX(Check.INDEX);

        final String thrown;

        Fault(String thrown) {
            this.thrown = thrown;
        }

        Fault with(Fault other) {
            return compareTo(other) >= 0 ? this : other;
        }
    }

    private interface CallWith {
        Object answer(MoorWatch x, int[] arguments);
    }

    /** The values from least to greatest are right, and a wrong value is the given fault. */
    private record Argument(int least, int greatest, Fault fault) {
        int[] choices() {
            return new int[] {least, greatest, least - 1, greatest + 1};
        }

        Fault of(int value) {
            return value >= least && value <= greatest ? Fault.NONE : fault;
        }
    }

    private static final Argument HOUR = index(48);

    private static int refused = 0;

    public static void main(String[] args) {
        berth("empty", Berths::empty, 0, 0);
        berth("bare", Berths::bare, 2, 0);
        berth("some", Berths::some, 2, 3);
        berth("full", Berths::full, 6, 10);
        tendOfALineLetGo();
        plan();
        Check.due("many mixes were refused", true, () -> refused > 1000);
        Check.finish();
    }

    /** The numbers that exist are 0 to one less than the count; without any, each number is wrong. */
    private static Argument index(int count) {
        return new Argument(0, count - 1, Fault.INDEX);
    }

    private static Argument range(int least, int greatest) {
        return new Argument(least, greatest, Fault.ARGUMENT);
    }

    private static void berth(String name, Supplier<MoorWatch> berth, int bollards, int lines) {
        Fault noBollard = bollards == 6 ? Fault.STATE : Fault.NONE;
        Fault noLine = lines == 10 ? Fault.STATE : Fault.NONE;
        Argument place = range(-5000, 5000);
        Argument strength = range(1, 1000000);
        Argument wind = range(-1000000, 1000000);
        Argument rise = range(-200, 200);
        mixes(name + " addBollard", berth, noBollard, (x, a) -> x.addBollard(a[0], a[1]), place, strength);
        mixes(name + " addLine", berth, noLine, (x, a) -> x.addLine(a[0], a[1], a[2], a[3]),
                place, index(bollards), range(1, 100), strength);
        mixes(name + " toggle", berth, Fault.NONE, (x, a) -> x.toggle(a[0]), index(lines));
        mixes(name + " setTide", berth, Fault.NONE, (x, a) -> x.setTide(a[0], a[1]), HOUR, rise);
        mixes(name + " setLoad", berth, Fault.NONE, (x, a) -> x.setLoad(a[0], a[1]), HOUR, rise);
        mixes(name + " setWind", berth, Fault.NONE, (x, a) -> x.setWind(a[0]), wind);
        mixes(name + " setPassing", berth, Fault.NONE, (x, a) -> x.setPassing(a[0], a[1]), HOUR, wind);
        mixes(name + " force", berth, Fault.NONE, (x, a) -> x.force(a[0], a[1]), HOUR, rise);
        mixes(name + " length", berth, Fault.NONE, (x, a) -> x.length(a[0], a[1]), index(lines), HOUR);
        mixes(name + " tension", berth, Fault.NONE, (x, a) -> x.tension(a[0], a[1]), index(lines), HOUR);
        mixes(name + " onBollard", berth, Fault.NONE, (x, a) -> x.onBollard(a[0], a[1]), index(bollards), HOUR);
    }

    // In some the line 1 is let go, in full the line 0; the other lines may be tended.
    private static void tendOfALineLetGo() {
        Argument slack = range(-100, 100);
        CallWith tend = (x, a) -> x.tend(a[0], a[1], a[2]);
        mixes("empty tend", Berths::empty, Fault.NONE, tend, index(0), HOUR, slack);
        mixes("bare tend", Berths::bare, Fault.NONE, tend, index(0), HOUR, slack);
        mixes("some tend", Berths::some, Fault.NONE, tend, index(3), HOUR, slack);
        CallWith tendLetGo = (x, a) -> x.tend(1, a[0], a[1]);
        mixes("some tend a line let go", Berths::some, Fault.STATE, tendLetGo, HOUR, slack);
        CallWith tendFirst = (x, a) -> x.tend(0, a[0], a[1]);
        mixes("full tend a line let go", Berths::full, Fault.STATE, tendFirst, HOUR, slack);
    }

    // A `to` that is no hour is an index, even one that is less than `from`.
    private static void plan() {
        int[] hours = {Integer.MIN_VALUE, -1, 0, 1, 46, 47, 48, Integer.MAX_VALUE};
        for (int from : hours) {
            for (int to : hours) {
                Fault fault = HOUR.of(from).with(HOUR.of(to)).with(to < from ? Fault.ARGUMENT : Fault.NONE);
                due("plan " + from + " to " + to, Berths::full, fault, x -> x.plan(from, to));
            }
        }
    }

    private static void mixes(String what, Supplier<MoorWatch> berth, Fault state, CallWith call, Argument... list) {
        for (int[] values : mixesOf(list)) {
            Fault fault = state;
            StringBuilder told = new StringBuilder(what);
            for (int i = 0; i < list.length; i++) {
                fault = fault.with(list[i].of(values[i]));
                told.append(' ').append(values[i]);
            }
            due(told.toString(), berth, fault, x -> call.answer(x, values));
        }
    }

    private static List<int[]> mixesOf(Argument[] list) {
        List<int[]> mixes = new ArrayList<>();
        mixes.add(new int[list.length]);
        for (int i = 0; i < list.length; i++) {
            List<int[]> longer = new ArrayList<>();
            for (int[] mix : mixes) {
                for (int choice : list[i].choices()) {
                    int[] copy = mix.clone();
                    copy[i] = choice;
                    longer.add(copy);
                }
            }
            mixes = longer;
        }
        return mixes;
    }

    private static void due(String what, Supplier<MoorWatch> berth, Fault fault, Check.CallOn call) {
        if (fault == Fault.NONE) {
            Check.due(what, false, () -> Check.answerOf(() -> call.answer(berth.get())).startsWith("throws."));
        } else {
            refused++;
            Check.refused(what, fault.thrown, berth, call);
        }
    }
}
