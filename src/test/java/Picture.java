import java.util.ArrayList;
import java.util.List;

/**
 * All that an object answers, call by call: what two objects in the same state have in common. Taking it changes the
 * object, so the object is of no use afterwards; it leaves some 100 of the 512 calls for what came before.
 */
final class Picture {
    private final List<String> answers = new ArrayList<>();

    private Picture() {
    }

    static List<String> of(MoorWatch x) {
        Picture picture = new Picture();
        picture.askAboutNow(x);
        picture.askHours(x);
        picture.askWeather(x);
        picture.askSetLengths(x, -1000000);
        picture.askSetLengths(x, 1000000);
        picture.askForRoom(x);
        return picture.answers;
    }

    static String difference(List<String> one, List<String> other) {
        for (int i = 0; i < Math.min(one.size(), other.size()); i++) {
            if (!one.get(i).equals(other.get(i))) {
                return one.get(i) + " became " + other.get(i);
            }
        }
        return one.size() == other.size() ? "none" : "other calls";
    }

    private void ask(String what, Check.Call call) {
        answers.add(what + " " + Check.answerOf(call));
    }

    private void askAboutNow(MoorWatch x) {
        for (int bollard = 0; bollard < 7; bollard++) {
            int b = bollard;
            ask("onBollard " + b, () -> x.onBollard(b, 0));
        }
        for (int line = 0; line < 11; line++) {
            int l = line;
            ask("length " + l, () -> x.length(l, 0));
            ask("tension " + l, () -> x.tension(l, 0));
        }
        ask("plan", () -> x.plan(0, 47));
        ask("firstUnsafe", () -> x.firstUnsafe(0));
    }

    private void askHours(MoorWatch x) {
        for (int hour = 0; hour < 48; hour++) {
            int h = hour;
            ask("isSafe " + h, () -> x.isSafe(h));
            ask("shift " + h, () -> x.shift(h));
            ask("force " + h, () -> x.force(h, 0));
        }
    }

    // The loads from the last hour back, so that none is set before it is asked.
    private void askWeather(MoorWatch x) {
        for (int hour = 47; hour >= 0; hour--) {
            int h = hour;
            ask("tide " + h, () -> x.setTide(h, 200));
            ask("load " + h, () -> x.setLoad(h, 200));
            ask("passing " + h, () -> x.setPassing(h, 0));
        }
    }

    // At high water and with the ship blown to an end each line is longer than its set length; toggling shows the rest.
    private void askSetLengths(MoorWatch x, int wind) {
        ask("wind", () -> x.setWind(wind));
        askTensions(x);
        for (int line = 0; line < 10; line++) {
            int l = line;
            ask("toggle " + l, () -> x.toggle(l));
        }
        askTensions(x);
    }

    private void askTensions(MoorWatch x) {
        for (int line = 0; line < 10; line++) {
            int l = line;
            ask("tension blown " + l, () -> x.tension(l, 0));
        }
    }

    private void askForRoom(MoorWatch x) {
        ask("addBollard", () -> x.addBollard(0, 1));
        ask("addLine", () -> x.addLine(0, 0, 1, 1));
    }
}
