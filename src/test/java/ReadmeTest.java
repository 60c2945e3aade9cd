import java.lang.reflect.Method;
import java.nio.file.Files;
import java.nio.file.Path;
import java.util.Arrays;
import java.util.regex.Matcher;
import java.util.regex.Pattern;

/** The example of README.md, line by line, and that README.md names every call of the face. */
public final class ReadmeTest {
    private static int wrong = 0;
    private static int called = 0;

    public static void main(String[] args) throws Exception {
        String text = Files.readString(Path.of(args[0], "README.md"));
        example(text.substring(text.indexOf("```java"), text.indexOf("```\n", text.indexOf("```java"))));
        for (Method m : CloudTakes.class.getMethods()) {
            if (m.getDeclaringClass() == CloudTakes.class && !text.contains("`" + m.getName() + "(")) {
                fails("README.md doesn't name " + m.getName());
            }
        }
        System.out.println(called + " calls of README.md, " + wrong + " wrong");
        if (wrong != 0 || called < 10) {
            System.exit(1);
        }
    }

    private static void fails(String what) {
        wrong++;
        System.out.println(what);
    }

    private static void example(String code) throws Exception {
        CloudTakes x = new CloudTakes();
        Matcher line = Pattern.compile("x\\.(\\w+)\\(([^)]*)\\);\\s+// (\\S+):").matcher(code);
        while (line.find()) {
            called++;
            Object got = call(x, line.group(1), line.group(2));
            if (!String.valueOf(got).equals(line.group(3))) {
                fails(line.group() + " but it answered " + got);
            }
        }
    }

    private static Object call(CloudTakes x, String name, String given) throws Exception {
        int[] numbers = given.isBlank() ? new int[0]
                : Arrays.stream(given.split(", ")).mapToInt(n -> Long.decode(n).intValue()).toArray();
        Class<?>[] types = new Class<?>[numbers.length];
        Arrays.fill(types, int.class);
        Object[] boxed = Arrays.stream(numbers).boxed().toArray();
        return CloudTakes.class.getMethod(name, types).invoke(x, boxed);
    }
}
