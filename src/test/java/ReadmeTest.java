import java.io.IOException;
import java.nio.file.Files;
import java.nio.file.Path;
import java.util.List;

/** README.md shows these calls, in this order, with the answers that they have. */
final class ReadmeTest {
    private static List<String> readme;
    private static int reached = 0;

    public static void main(String[] args) throws IOException {
        readme = Files.readAllLines(Path.of("README.md"));
        MoorWatch berth = new MoorWatch();
        made("MoorWatch berth = new MoorWatch();");
        int right = berth.addBollard(1500, 3000);
        made("int right = berth.addBollard(1500, 3000);");
        int left = berth.addBollard(-1500, 3000);
        made("int left = berth.addBollard(-1500, 3000);");
        int bow = berth.addLine(1000, right, 10, 2000);
        made("int bow = berth.addLine(1000, right, 10, 2000);");
        int stern = berth.addLine(-1000, left, 10, 2000);
        made("int stern = berth.addLine(-1000, left, 10, 2000);");
        shown("berth.setTide(3, 150);", 0, () -> berth.setTide(3, 150));
        shown("berth.setWind(500);", 0, () -> berth.setWind(500));
        shown("berth.shift(3);", 41, () -> berth.shift(3));
        shown("berth.length(stern, 3);", 703, () -> berth.length(stern, 3));
        shown("berth.tension(stern, 3);", 1200, () -> berth.tension(stern, 3));
        shown("berth.onBollard(left, 3);", 1200, () -> berth.onBollard(left, 3));
        shown("berth.isSafe(3);", false, () -> berth.isSafe(3));
        shown("berth.firstUnsafe(0);", 3, () -> berth.firstUnsafe(0));
        shown("berth.plan(0, 47);", 1, () -> berth.plan(0, 47));
        shown("berth.tend(stern, 3, 0);", 703, () -> berth.tend(stern, 3, 0));
        shown("berth.firstUnsafe(0);", -1, () -> berth.firstUnsafe(0));
        shown("berth.toggle(bow);", false, () -> berth.toggle(bow));
        Check.due("the example ends there", "```", () -> readme.get(reached));
        Check.finish();
    }

    private static void made(String call) {
        int at = reached == 0 ? readme.indexOf(call) : reached;
        Check.due(call, call, () -> readme.get(at));
        reached = at + 1;
    }

    private static void shown(String call, Object want, Check.Call answer) {
        String line = readme.get(reached);
        Check.due(call, want, answer);
        Check.due(call + " in README.md", true, () -> line.startsWith(call + " ") && answerIn(line).equals("" + want));
        reached++;
    }

    /** What stands behind the line's comment sign, up to a comma. */
    private static String answerIn(String line) {
        String[] parts = line.split("// ", 2);
        return parts.length < 2 ? "" : parts[1].split(",")[0];
    }
}
