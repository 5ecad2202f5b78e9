import java.lang.reflect.InvocationTargetException;
import java.lang.reflect.Method;
import java.lang.reflect.Modifier;
import java.nio.file.Files;
import java.nio.file.Path;
import java.util.List;
import java.util.regex.Matcher;
import java.util.regex.Pattern;

/** README.md's example, line by line, and its table of calls. Runs in the project's root. */
public final class ReadmeTest {
    private static final Pattern LINE =
        Pattern.compile("x\\.(\\w+)\\(([^)]*)\\);\\s*// (true|false|-?\\d+|throws \\w+)(:.*)?");

    public static void main(String[] args) throws Exception {
        List<String> readme = Files.readAllLines(Path.of("README.md"));
        example(readme);
        table(readme);
        tests(readme);
        Check.end("ReadmeTest");
    }

    private static void example(List<String> readme) throws Exception {
        int start = readme.indexOf("```java");
        Check.holds("README has an example", start >= 0);
        Check.holds("it makes an object", readme.get(start + 1).equals("ProcessYields x = new ProcessYields();"));
        ProcessYields x = new ProcessYields();
        int calls = 0;
        for (int i = start + 2; !readme.get(i).equals("```"); i++) {
            Matcher line = LINE.matcher(readme.get(i));
            Check.holds("a call with its answer: " + readme.get(i), line.matches());
            if (line.matches()) {
                String got = answer(x, line.group(1), line.group(2).split(", "));
                Check.holds(readme.get(i) + " (it answered " + got + ")", got.equals(line.group(3)));
                calls++;
            }
        }
        Check.holds("the example calls more than once", calls > 1);
    }

    private static String answer(ProcessYields x, String name, String[] words) throws Exception {
        Method method = publicMethod(name);
        Object[] arguments = new Object[words.length];
        for (int i = 0; i < words.length; i++) {
            boolean flag = method.getParameterTypes()[i] == boolean.class;
            arguments[i] = flag ? (Object) Boolean.valueOf(words[i]) : Integer.valueOf(words[i]);
        }
        try {
            return String.valueOf(method.invoke(x, arguments));
        } catch (InvocationTargetException e) {
            return "throws " + e.getCause().getClass().getSimpleName();
        }
    }

    private static Method publicMethod(String name) {
        for (Method method : ProcessYields.class.getDeclaredMethods()) {
            if (method.getName().equals(name) && Modifier.isPublic(method.getModifiers())) {
                return method;
            }
        }
        throw new IllegalStateException("README calls " + name + ", which is not there");
    }

    /** The last column names the exceptions, in the order in which the face declares them. */
    private static void table(List<String> readme) {
        int rows = 0;
        for (Method method : ProcessYields.class.getDeclaredMethods()) {
            if (Modifier.isPublic(method.getModifiers())) {
                rows++;
                Check.holds("README's row of " + method.getName(), isTold(method, rowOf(method, readme)));
            }
        }
        Check.due("public methods in README's table", rows, 16);
    }

    private static String rowOf(Method method, List<String> readme) {
        for (String line : readme) {
            if (line.startsWith("| `" + method.getName() + "(")) {
                return line;
            }
        }
        return "";
    }

    private static boolean isTold(Method method, String row) {
        String[] cells = row.split("\\|");
        if (cells.length != 5) {
            return false;
        }
        int commas = cells[1].length() - cells[1].replace(",", "").length();
        StringBuilder thrown = new StringBuilder();
        for (Class<?> type : method.getExceptionTypes()) {
            thrown.append(type.getSimpleName()).append(' ');
        }
        StringBuilder told = new StringBuilder();
        Matcher name = Pattern.compile("`(\\w+Exception)`").matcher(cells[4]);
        while (name.find()) {
            told.append(name.group(1)).append(' ');
        }
        return commas + 1 == method.getParameterCount() && told.toString().equals(thrown.toString());
    }

    private static void tests(List<String> readme) throws Exception {
        try (var files = Files.list(Path.of("src/test/java"))) {
            for (Path file : files.toList()) {
                String name = file.getFileName().toString().replace(".java", "");
                boolean told = readme.stream().anyMatch(line -> line.startsWith("- `" + name + "`:"));
                Check.holds("README tells of " + name, told || !name.endsWith("Test"));
            }
        }
    }
}
