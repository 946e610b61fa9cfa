import java.lang.reflect.Constructor;
import java.lang.reflect.Field;
import java.lang.reflect.Method;
import java.lang.reflect.Modifier;
import java.util.Arrays;
import java.util.Set;
import java.util.TreeSet;
import java.util.stream.Collectors;

/** The class shows what the document's public face shows, and nothing else. */
final class FaceTest {
    private static final String[] FACE = {
        "boolean isAdrift(int) throws IndexOutOfBoundsException",
        "boolean isSafe(int) throws IndexOutOfBoundsException",
        "boolean toggle(int) throws IndexOutOfBoundsException",
        "int addBollard(int,int) throws IllegalArgumentException,IllegalStateException",
        "int addLine(int,int,int,int) throws IndexOutOfBoundsException,IllegalArgumentException,IllegalStateException",
        "int firstUnsafe(int) throws IndexOutOfBoundsException",
        "int force(int,int) throws IndexOutOfBoundsException,IllegalArgumentException",
        "int length(int,int) throws IndexOutOfBoundsException",
        "int onBollard(int,int) throws IndexOutOfBoundsException",
        "int plan(int,int) throws IndexOutOfBoundsException,IllegalArgumentException",
        "int setLoad(int,int) throws IndexOutOfBoundsException,IllegalArgumentException",
        "int setPassing(int,int) throws IndexOutOfBoundsException,IllegalArgumentException",
        "int setTide(int,int) throws IndexOutOfBoundsException,IllegalArgumentException",
        "int setWind(int) throws IllegalArgumentException",
        "int shift(int) throws IndexOutOfBoundsException",
        "int tend(int,int,int) throws IndexOutOfBoundsException,IllegalArgumentException,IllegalStateException",
        "int tendAll(int) throws IndexOutOfBoundsException",
        "int tension(int,int) throws IndexOutOfBoundsException",
    };

    public static void main(String[] args) {
        Check.due("public final class", Modifier.PUBLIC | Modifier.FINAL, () -> MoorWatch.class.getModifiers());
        Check.due("package", "", () -> MoorWatch.class.getPackageName());
        Check.due("constructors", "[public MoorWatch()]", () -> Arrays.stream(
                MoorWatch.class.getDeclaredConstructors()).map(Constructor::toString).toList());
        Check.due("fields that are not private", 0L, () -> Arrays.stream(MoorWatch.class.getDeclaredFields())
                .map(Field::getModifiers).filter(m -> !Modifier.isPrivate(m)).count());
        Check.due("methods that are not private", new TreeSet<>(Arrays.asList(FACE)), FaceTest::openMethods);
        Check.due("private methods with a public name", Set.of(), FaceTest::clashingNames);
        Check.finish();
    }

    private static Set<String> openMethods() {
        Set<String> open = new TreeSet<>();
        for (Method method : MoorWatch.class.getDeclaredMethods()) {
            if (!Modifier.isPrivate(method.getModifiers())) {
                open.add(method.getReturnType() + " " + method.getName() + "(" + names(method.getParameterTypes())
                        + ") throws " + names(method.getExceptionTypes()));
            }
        }
        return open;
    }

    private static String names(Class<?>[] types) {
        return Arrays.stream(types).map(Class::getSimpleName).collect(Collectors.joining(","));
    }

    private static Set<String> clashingNames() {
        Set<String> open = new TreeSet<>();
        Set<String> hidden = new TreeSet<>();
        for (Method method : MoorWatch.class.getDeclaredMethods()) {
            (Modifier.isPrivate(method.getModifiers()) ? hidden : open).add(method.getName());
        }
        hidden.retainAll(open);
        return hidden;
    }
}
