import java.lang.reflect.Constructor;
import java.lang.reflect.Field;
import java.lang.reflect.Method;
import java.lang.reflect.Modifier;
import java.nio.file.Files;
import java.nio.file.Path;
import java.util.Arrays;
import java.util.Set;
import java.util.TreeSet;
import java.util.regex.Pattern;

/** The document's public face, and those rules of LANGUAGE.md that can be seen from outside. Runs in the project's root. */
public final class LanguageTest {
    private static final String[] FACE = {
        "boolean value(int, int)",
        "boolean recipe(int)",
        "int needs(int, int, int, int) IllegalArgumentException",
        "int yields(int, int, int, int) IllegalArgumentException",
        "int in(int, int, int) IllegalArgumentException IllegalStateException",
        "int made(int, int, boolean) IllegalArgumentException",
        "long export(int, int) IllegalArgumentException",
        "long release(int, int) IllegalArgumentException",
        "int prior(int, int, int) IllegalArgumentException IllegalStateException",
        "boolean day(int)",
        "long chain(int, int, int) IllegalArgumentException",
        "long look(int, int) IndexOutOfBoundsException",
        "long lot(int, int) IndexOutOfBoundsException",
        "long sum(int)",
        "long quotient(int, int) IllegalArgumentException ArithmeticException",
        "int count(int)"};

    private static final String[] REFUSED = {"\\bimport\\b", "->", "::", "\\btry\\b", "\\bcatch\\b", "\\bfinally\\b",
        "\\bsynchronized\\b", "\\bassert\\b", "Exact\\b", "\\bpackage\\b", "\\bwhile\\b", "\\bSystem\\b", "\\bstatic\\s*\\{"};

    public static void main(String[] args) throws Exception {
        face();
        members();
        insides();
        text();
        Check.end("LanguageTest");
    }

    private static void face() {
        Set<String> got = new TreeSet<>();
        for (Method method : ProcessYields.class.getDeclaredMethods()) {
            if (Modifier.isPublic(method.getModifiers())) {
                got.add(told(method));
            }
        }
        Set<String> want = new TreeSet<>(Arrays.asList(FACE));
        Check.holds("the public methods are the face's: " + got, got.equals(want));
        int modifiers = ProcessYields.class.getModifiers();
        Check.holds("public and final", Modifier.isPublic(modifiers) && Modifier.isFinal(modifiers));
        Constructor<?>[] constructors = ProcessYields.class.getDeclaredConstructors();
        Check.holds("one public constructor without parameters", constructors.length == 1
            && Modifier.isPublic(constructors[0].getModifiers()) && constructors[0].getParameterCount() == 0);
    }

    private static String told(Method method) {
        StringBuilder text = new StringBuilder();
        text.append(method.getReturnType().getSimpleName()).append(' ').append(method.getName()).append('(');
        String comma = "";
        for (Class<?> type : method.getParameterTypes()) {
            text.append(comma).append(type.getSimpleName());
            comma = ", ";
        }
        text.append(')');
        for (Class<?> type : method.getExceptionTypes()) {
            text.append(' ').append(type.getSimpleName());
        }
        return text.toString();
    }

    private static void members() {
        for (Method method : ProcessYields.class.getDeclaredMethods()) {
            int modifiers = method.getModifiers();
            Check.holds(method.getName() + " is public or private", Modifier.isPublic(modifiers) || Modifier.isPrivate(modifiers));
        }
        for (Field field : ProcessYields.class.getDeclaredFields()) {
            int modifiers = field.getModifiers();
            boolean none = field.getName().equals("NONE");
            Check.holds(field.getName() + " is private, or NONE", none ? Modifier.isPublic(modifiers) : Modifier.isPrivate(modifiers));
        }
    }

    private static void insides() {
        Set<String> faceNames = new TreeSet<>();
        for (String method : FACE) {
            faceNames.add(method.substring(method.indexOf(' ') + 1, method.indexOf('(')));
        }
        Class<?>[] insides = ProcessYields.class.getDeclaredClasses();
        Check.holds("some twelve classes at most", insides.length <= 11);
        for (Class<?> inside : insides) {
            Check.holds(inside.getName() + " is static", Modifier.isStatic(inside.getModifiers()));
            checkMembers(inside, faceNames);
        }
        checkMembers(ProcessYields.class, Set.of());
        for (Method method : ProcessYields.class.getDeclaredMethods()) {
            Check.holds(method.getName() + ": private, with a public one's name",
                Modifier.isPublic(method.getModifiers()) || !faceNames.contains(method.getName()));
        }
    }

    private static void checkMembers(Class<?> type, Set<String> faceNames) {
        int fields = 0;
        for (Field field : type.getDeclaredFields()) {
            boolean isStatic = Modifier.isStatic(field.getModifiers());
            fields += isStatic ? 0 : 1;
            Check.holds(field.getName() + ": static, so final", !isStatic || Modifier.isFinal(field.getModifiers()));
        }
        Check.holds(type.getName() + " has some twenty fields at most", fields <= 20);
        for (Method method : type.getDeclaredMethods()) {
            Check.holds(method.getName() + " has seven parameters at most", method.getParameterCount() <= 7);
            Check.holds(method.getName() + " bears no name of the face", !faceNames.contains(method.getName()));
        }
    }

    private static void text() throws Exception {
        String source = Files.readString(Path.of("src/main/java/ProcessYields.java"));
        String code = source.replaceAll("(?s)/\\*.*?\\*/", "").replaceAll("//[^\n]*", "").replaceAll("\"[^\"]*\"", "\"\"");
        for (String refused : REFUSED) {
            Check.holds("the class goes without " + refused, !Pattern.compile(refused).matcher(code).find());
        }
        Check.holds("characters 0 to 255 alone", source.chars().allMatch(c -> c < 256));
    }
}
