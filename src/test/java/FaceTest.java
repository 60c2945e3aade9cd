import java.lang.reflect.Constructor;
import java.lang.reflect.Field;
import java.lang.reflect.Method;
import java.lang.reflect.Modifier;
import java.nio.file.Files;
import java.nio.file.Path;
import java.util.Arrays;
import java.util.List;
import java.util.Set;
import java.util.TreeSet;
import java.util.regex.Matcher;
import java.util.regex.Pattern;

/** The document's public face, whole and nothing beside it, and what of LANGUAGE.md a text shows. */
public final class FaceTest {
    private static final List<String> FACE = List.of("int feed(int, int, int, int, int)", "int plan(int)",
            "int fault()", "int count(int)", "int shot(int, int)", "int sky(int, int)", "int why(int, int)",
            "int ready(int)", "int edge(int)", "int take(int)", "int await(int)", "int move(boolean)",
            "boolean sets(int, boolean)", "int clouds(int, int, boolean)", "int undo()", "int day(int, int)",
            "int best()", "int most(int)", "int order(int)", "int soonest(int)", "int inside()", "int worth(int)",
            "int chances(int, int)", "int without(int)", "int shorter(int)", "int idle(int, int)", "int regret()",
            "int holes(int)", "int hole(int)", "long lasts(int, int, int)", "long trial(int, int, int, int)",
            "int see(int, int, boolean)", "int which()", "void forget()", "int week(int, int, int, int)",
            "void image()", "boolean restore()");

    private static int wrong = 0;

    private static void holds(boolean is, String what) {
        if (!is) {
            wrong++;
            System.out.println(what);
        }
    }

    public static void main(String[] args) throws Exception {
        face();
        classes();
        String text = Files.readString(Path.of(args[0], "src/main/java/CloudTakes.java"));
        source(text);
        Path document = Path.of(args[0], "../shared/DOC.md");
        if (Files.exists(document)) {
            words(Files.readString(document), text);
        }
        System.out.println("the face and the source looked at, " + wrong + " wrong");
        if (wrong != 0) {
            System.exit(1);
        }
    }

    private static String signature(Method m) {
        StringBuilder b = new StringBuilder(m.getReturnType().getSimpleName()).append(' ').append(m.getName())
                .append('(');
        Class<?>[] types = m.getParameterTypes();
        for (int i = 0; i < types.length; i++) {
            b.append(i == 0 ? "" : ", ").append(types[i].getSimpleName());
        }
        return b.append(')').toString();
    }

    private static void face() throws Exception {
        Class<?> c = CloudTakes.class;
        holds(Modifier.isPublic(c.getModifiers()) && Modifier.isFinal(c.getModifiers()), "public and final");
        Set<String> found = new TreeSet<>();
        Set<String> names = new TreeSet<>();
        for (Method m : c.getDeclaredMethods()) {
            if (Modifier.isPublic(m.getModifiers())) {
                found.add(signature(m));
                names.add(m.getName());
            }
        }
        holds(found.equals(new TreeSet<>(FACE)), "the public methods are " + found);
        for (Method m : c.getDeclaredMethods()) {
            boolean isHidden = Modifier.isPrivate(m.getModifiers()) && !names.contains(m.getName());
            holds(Modifier.isPublic(m.getModifiers()) || isHidden, "a method beside the face: " + signature(m));
        }
        for (Field f : c.getDeclaredFields()) {
            boolean isNone = f.getName().equals("NONE") && Modifier.isPublic(f.getModifiers());
            holds(isNone || Modifier.isPrivate(f.getModifiers()), "a field beside the face: " + f.getName());
            holds(!Modifier.isStatic(f.getModifiers()) || Modifier.isFinal(f.getModifiers()), "static state");
        }
        Constructor<?>[] made = c.getDeclaredConstructors();
        holds(made.length == 1 && Modifier.isPublic(made[0].getModifiers()), "one public constructor");
    }

    /** The face as the document writes it, with the exceptions that each call declares. */
    private static void words(String document, String text) {
        Matcher line = Pattern.compile("(?m)^    (public .*);$").matcher(document);
        int lines = 0;
        while (line.find()) {
            lines++;
            String due = "    " + line.group(1);
            holds(text.contains(due + " {\n") || text.contains(due + ";\n"), "not as the document writes it:" + due);
        }
        holds(lines == FACE.size() + 2, "the document's face has " + lines + " lines");
    }

    private static void classes() {
        Class<?>[] inside = CloudTakes.class.getDeclaredClasses();
        holds(inside.length <= 12, "at most some twelve classes: " + inside.length);
        Set<String> names = new TreeSet<>();
        FACE.forEach(f -> names.add(f.replaceAll(".* (\\w+)\\(.*", "$1")));
        for (Class<?> c : inside) {
            holds(Modifier.isStatic(c.getModifiers()) && !Modifier.isPublic(c.getModifiers()), c + " is static");
            long fields = Arrays.stream(c.getDeclaredFields()).filter(f -> !Modifier.isStatic(f.getModifiers()))
                    .count();
            holds(fields <= 20, c + " has " + fields + " fields");
            for (Method m : c.getDeclaredMethods()) {
                holds(!names.contains(m.getName()), c + " has a method of a public one's name: " + m.getName());
                holds(m.getParameterCount() <= 7, "at most seven parameters: " + m);
            }
        }
    }

    private static void source(String text) {
        holds(text.chars().allMatch(c -> c < 128), "signs above 127");
        holds(!text.contains("package "), "a package line");
        String code = text.replaceAll("(?s)/\\*.*?\\*/", "").replaceAll("//[^\n]*", "").replaceAll("\"[^\"\n]*\"", "\"\"");
        Matcher imports = Pattern.compile("(?m)^import (.*);").matcher(code);
        while (imports.find()) {
            holds(imports.group(1).equals("java.util.NoSuchElementException"), "import " + imports.group(1));
        }
        for (String word : List.of("->", "::", "finally", "synchronized", "assert ", "Exact(", "hashCode", "toString",
                "getMessage", "Random", "System.nanoTime", "currentTimeMillis", "Thread", "catch (Exception",
                "catch (RuntimeException", "ArrayIndexOutOfBounds", "NullPointer", "ClassCast", "NegativeArraySize",
                "while (true)", "for (;;)", "static {")) {
            holds(!code.contains(word), "the source has '" + word + "'");
        }
        methodLengths(code);
    }

    private static void methodLengths(String code) {
        int begin = 0;
        String head = "";
        String[] lines = code.split("\n");
        for (int i = 0; i < lines.length; i++) {
            if (lines[i].matches(" {4}( {4})?\\S.*\\) (throws .*)?\\{")) {
                begin = i;
                head = lines[i];
            }
            if (lines[i].matches(" {4}( {4})?\\}")) {
                holds(i - begin < 60 || head.isEmpty(), "some sixty lines: " + head);
                head = "";
            }
        }
    }
}
