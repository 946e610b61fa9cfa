import java.io.IOException;
import java.lang.reflect.Constructor;
import java.lang.reflect.Field;
import java.lang.reflect.Method;
import java.lang.reflect.Modifier;
import java.nio.file.Files;
import java.nio.file.Path;
import java.util.Arrays;
import java.util.List;
import java.util.Set;
import java.util.TreeSet;
import java.util.regex.MatchResult;
import java.util.regex.Pattern;
import java.util.stream.Collectors;

/** The class shows what the document's public face shows, in its words and its order, and nothing else. */
final class FaceTest {
    private static final String[] FACE = {
        "boolean isAdrift(int) throws IndexOutOfBoundsException",
        "boolean isSafe(int) throws IndexOutOfBoundsException",
        "boolean toggle(int) throws IndexOutOfBoundsException",
        "int addBollard(int,int) throws IllegalArgumentException,IllegalStateException",
        "int addLine(int,int,int,int) throws IndexOutOfBoundsException,IllegalArgumentException,IllegalStateException",
        "int firstUnsafe(int) throws IndexOutOfBoundsException",
        "int force(int,int) throws IndexOutOfBoundsException,IllegalArgumentException",
        "int length(int,int) throws IndexOutOfBoundsException",
        "int onBollard(int,int) throws IndexOutOfBoundsException",
        "int plan(int,int) throws IndexOutOfBoundsException,IllegalArgumentException",
        "int setLoad(int,int) throws IndexOutOfBoundsException,IllegalArgumentException",
        "int setPassing(int,int) throws IndexOutOfBoundsException,IllegalArgumentException",
        "int setTide(int,int) throws IndexOutOfBoundsException,IllegalArgumentException",
        "int setWind(int) throws IllegalArgumentException",
        "int shift(int) throws IndexOutOfBoundsException",
        "int tend(int,int,int) throws IndexOutOfBoundsException,IllegalArgumentException,IllegalStateException",
        "int tendAll(int) throws IndexOutOfBoundsException",
        "int tension(int,int) throws IndexOutOfBoundsException",
    };

    private static final Pattern HEADING =
            Pattern.compile("Ahead of the calls (.*) the interface says: (.*)\\.");

    public static void main(String[] args) throws IOException {
        String document = Files.readString(Path.of("../shared/DOC.md"));
        String source = Files.readString(Path.of("src/main/java/MoorWatch.java")).replaceAll("\\s+", " ");
        asTheDocumentPrintsIt(document, source);
        headings(document, source);
        Check.due("public final class", Modifier.PUBLIC | Modifier.FINAL, () -> MoorWatch.class.getModifiers());
        Check.due("package", "", () -> MoorWatch.class.getPackageName());
        Check.due("constructors", "[public MoorWatch()]", () -> Arrays.stream(
                MoorWatch.class.getDeclaredConstructors()).map(Constructor::toString).toList());
        Check.due("fields that are not private", 0L, () -> Arrays.stream(MoorWatch.class.getDeclaredFields())
                .map(Field::getModifiers).filter(m -> !Modifier.isPrivate(m)).count());
        Check.due("methods that are not private", new TreeSet<>(Arrays.asList(FACE)), FaceTest::openMethods);
        Check.due("private methods with a public name", Set.of(), FaceTest::clashingNames);
        Check.finish();
    }

    /** Each line of the code block, with the names of its arguments, in the same order. */
    private static void asTheDocumentPrintsIt(String document, String source) {
        String block = document.split("```java\n")[1].split("```")[0];
        List<String> lines = block.lines().map(String::strip).filter(line -> !line.equals("}")).toList();
        Check.due("lines of the code block", FACE.length + 2, lines::size);
        int before = -1;
        for (String line : lines) {
            int last = before;
            int at = source.indexOf(line.replace(";", " {"));
            Check.due("stands in its place: " + line, true, () -> at > last);
            before = at;
        }
    }

    /** Each heading stands ahead of its calls, with no other heading between it and the last of them. */
    private static void headings(String document, String source) {
        List<MatchResult> headings = HEADING.matcher(document).results().toList();
        Check.due("headings", 3, headings::size);
        for (MatchResult heading : headings) {
            String comment = "// " + heading.group(2) + " ";
            for (String call : heading.group(1).replace("`", "").split(", ")) {
                int at = Math.max(source.indexOf(" int " + call + "("), source.indexOf(" boolean " + call + "("));
                int above = source.lastIndexOf("// ----", Math.max(at, 0));
                Check.due("heading of " + call, true, () -> above >= 0 && source.startsWith(comment, above));
            }
        }
    }

    private static Set<String> openMethods() {
        Set<String> open = new TreeSet<>();
        for (Method method : MoorWatch.class.getDeclaredMethods()) {
            if (!Modifier.isPrivate(method.getModifiers())) {
                open.add(method.getReturnType() + " " + method.getName() + "(" + names(method.getParameterTypes())
                        + ") throws " + names(method.getExceptionTypes()));
            }
        }
        return open;
    }

    private static String names(Class<?>[] types) {
        return Arrays.stream(types).map(Class::getSimpleName).collect(Collectors.joining(","));
    }

    private static Set<String> clashingNames() {
        Set<String> open = new TreeSet<>();
        Set<String> hidden = new TreeSet<>();
        for (Method method : MoorWatch.class.getDeclaredMethods()) {
            (Modifier.isPrivate(method.getModifiers()) ? hidden : open).add(method.getName());
        }
        hidden.retainAll(open);
        return hidden;
    }
}
