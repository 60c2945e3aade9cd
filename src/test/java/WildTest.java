import java.lang.reflect.InvocationTargetException;
import java.lang.reflect.Method;
import java.util.Arrays;
import java.util.Comparator;
import java.util.List;
import java.util.Random;
import java.util.Set;

/**
 * Calls with any arguments whatever, in any state (by fixed seeds): only what the face declares is thrown.
 * A twin gets neither the questions nor what threw, and must answer the rest alike: these change nothing.
 */
public final class WildTest {
    private static final int CALLS = 400;
    private static final Set<String> CHANGING = Set.of("feed", "plan", "take", "await", "move", "sets", "clouds",
            "undo", "see", "forget", "image", "restore");
    private static final int[] EDGES = {Integer.MIN_VALUE, Integer.MIN_VALUE + 1, -481, -256, -2, -1, 0, 1, 2, 7, 8,
        9, 10, 11, 18, 19, 20, 29, 30, 31, 32, 39, 40, 41, 59, 60, 61, 99, 100, 255, 256, 479, 480, 481, 512, 699, 700,
        701, 999, 1000, 1 << 16, 1 << 24, 1 << 30, Integer.MAX_VALUE - 479, Integer.MAX_VALUE - 1, Integer.MAX_VALUE};
    private static final String[] PLANS = {
        "day 480;move 0;sun 30;cloud 30;sun 200;wide 1 30 0 480;near 0 30 0 480;inside 0 30 0 480;"
            + "wide 0 29 0 480 after 0;wide 2 9 0 480;near 1 8 0 480;inside 0 2 0 480 after 3;inside 0 9 0 480;"
            + "rule left-length;rule until*kind+left/waited;rule tries*9999*9999*9999;rule not hour=0 or light;",
        "day 10;move 120;cold 9;inside 1 30 480 480;inside 0 1 0 9;wide 0 10 0 0;rule 1;",
        "day 30;move 3;sun 9;cloud 2;sun 9;wide 1 4 0 20;near 2 3 0 30;inside 0 5 0 30;wide 1 6 0 30 after 0;rule 9;",
        "sun 480;cloud 480;sun 480;", "", "rule 1/0;rule 0-1;", "wide 0 1 0 480;", "day 9;", "rule ((((((1;", "x"};

    private static int wrong = 0;
    private static int called = 0;

    private final Random random;
    private final CloudTakes x = new CloudTakes();
    private final CloudTakes twin = new CloudTakes();
    private final StringBuilder story = new StringBuilder();

    private WildTest(long seed) {
        random = new Random(seed);
    }

    public static void main(String[] args) {
        int runs = args.length > 1 ? Integer.parseInt(args[1]) : 300;
        for (int i = 0; i < runs && wrong < 5; i++) {
            new WildTest(i).runs();
        }
        System.out.println(called + " calls with any arguments, " + wrong + " wrong");
        if (wrong != 0 || called < 10000) {
            System.exit(1);
        }
    }

    /** In an order of their own: that of reflection is free. */
    private static Method[] face() {
        Method[] face = Arrays.stream(CloudTakes.class.getDeclaredMethods())
                .filter(m -> java.lang.reflect.Modifier.isPublic(m.getModifiers())).toArray(Method[]::new);
        Arrays.sort(face, Comparator.comparing(Method::getName));
        return face;
    }

    private void runs() {
        Method[] face = face();
        tells(PLANS[random.nextInt(PLANS.length)]);
        for (int i = 0; i < CALLS && wrong < 5; i++) {
            if (random.nextInt(60) == 0) {
                tells(changed(PLANS[random.nextInt(PLANS.length)]));
            } else {
                Method m = face[random.nextInt(face.length)];
                // A good plan of nothing would end most runs of acts at once.
                if (!m.getName().equals("plan") || random.nextInt(4) == 0) {
                    calls(m, arguments(m));
                }
            }
        }
        same("what is counted", counted(x), counted(twin));
    }

    private String changed(String text) {
        if (text.isEmpty() || random.nextBoolean()) {
            return text;
        }
        char[] signs = text.toCharArray();
        signs[random.nextInt(signs.length)] = (char) random.nextInt(256);
        return new String(signs);
    }

    private void tells(String text) {
        story.append("text ").append(text).append('\n');
        for (CloudTakes one : List.of(x, twin)) {
            while (one.count(15) > 0) {
                one.plan(one.count(15));
            }
            Tape.plan(one, text);
        }
    }

    private Object[] arguments(Method m) {
        Class<?>[] types = m.getParameterTypes();
        Object[] given = new Object[types.length];
        for (int i = 0; i < types.length; i++) {
            given[i] = types[i] == boolean.class ? (Object) random.nextBoolean() : (Object) anyInt();
        }
        return given;
    }

    private int anyInt() {
        switch (random.nextInt(8)) {
            case 0: return random.nextInt();
            case 1: return EDGES[random.nextInt(EDGES.length)];
            case 2: return random.nextInt(500) - 10;
            default: return random.nextInt(10) - 1;
        }
    }

    private void calls(Method m, Object[] given) {
        called++;
        story.append(m.getName()).append(Arrays.toString(given));
        String answer = answer(x, m, given);
        story.append(" -> ").append(answer).append('\n');
        if (CHANGING.contains(m.getName()) && !answer.startsWith("throws")) {
            same(m.getName(), answer, answer(twin, m, given));
        }
    }

    private String answer(CloudTakes one, Method m, Object[] given) {
        try {
            return String.valueOf(m.invoke(one, given));
        } catch (InvocationTargetException e) {
            Class<?> thrown = e.getCause().getClass();
            if (!List.of(m.getExceptionTypes()).contains(thrown)) {
                fails(m.getName() + " throws " + e.getCause());
            }
            return "throws " + thrown.getSimpleName();
        } catch (IllegalAccessException e) {
            throw new AssertionError(e);
        }
    }

    private static String counted(CloudTakes one) {
        StringBuilder b = new StringBuilder().append(one.fault());
        for (int what = 0; what <= 18; what++) {
            b.append(' ').append(one.count(what));
        }
        for (int shot = 0; shot < one.count(0); shot++) {
            b.append(" spoilt ").append(one.shot(shot, 7)).append(' ').append(one.chances(shot, 0));
        }
        return b.append(" which ").append(one.which()).append(" holes ").append(one.hole(0)).toString();
    }

    private void same(String what, String got, String due) {
        if (!got.equals(due)) {
            fails(what + " answered " + got + ", its twin " + due);
        }
    }

    private void fails(String what) {
        wrong++;
        System.out.println("---\n" + story + what);
    }
}
