import java.lang.reflect.InvocationTargetException;
import java.lang.reflect.Method;
import java.util.ArrayList;
import java.util.Arrays;
import java.util.Comparator;
import java.util.List;
import java.util.Random;

/**
 * Every call with numbers at, beside and far beyond each limit of the document, in companies that
 * are missing, empty and full: none may throw, and each answer must be the Oracle's.
 */
public final class WildTest {
    private static final int[] EDGES = {Integer.MIN_VALUE, -1001, -3, -2, -1, 0, 1, 2, 3, 4, 5, 6, 10,
        11, 14, 15, 20, 21, 30, 31, 60, 61, 100, 101, 200, 400, 401, 9999, 10000, Integer.MAX_VALUE};
    private static final int SAMPLES = 250;
    private static final String FULL = "camp 1 2;calm 3;calm 1;calm 4;kind 9;kind 12;kind 0;kind 18;"
            + "kind 20;kind 30;scout;scout;scout;scout;scout;scout;can 0 0 9;can 3 4 20;can 5 5 20";
    private static final String[] CAMPS = {"", "camp 0 0", "camp 5 9;kind 30", "camp 5 9;scout",
        "camp 2 1;calm 3;calm 0;kind 6;kind 10;kind 2;scout;scout;can 0 0 4;can 1 1 8", FULL};
    private static final String[] RULES = {"try hard - skill", "try 0 - 1", "try 1 if badge = 0",
        "try 1 + others if day % 2 = scout % 2;try kind", "try passed - tried + 3", "try 1 / kind"};

    private final Checks checks = new Checks();
    private final Random random = new Random(1);
    private FailBadge badge;
    private Oracle oracle;
    private String state;

    public static void main(String[] args) {
        WildTest test = new WildTest();
        for (String camp : CAMPS) {
            for (int rules : new int[] {0, RULES.length}) {
                test.askAll(camp, rules);
            }
        }
        test.checks.close();
    }

    private void askAll(String camp, int rules) {
        Method[] methods = FailBadge.class.getDeclaredMethods();
        Arrays.sort(methods, Comparator.comparing(Method::getName));
        for (Method method : methods) {
            if (method.getModifiers() != java.lang.reflect.Modifier.PUBLIC) {
                continue;
            }
            begin(camp, rules);
            for (Object[] arguments : arguments(method.getParameterCount())) {
                ask(method, arguments);
            }
        }
    }

    /** A new object, and a new Oracle, to which the same has happened. */
    private void begin(String camp, int rules) {
        badge = new FailBadge();
        oracle = new Oracle();
        state = "[" + camp + "] " + rules + " rules: ";
        if (!camp.isEmpty()) {
            tell(camp);
            same("camp", badge.camp(), oracle.camp());
        }
        for (int rule = 0; rule < rules; rule++) {
            tell(RULES[rule]);
            same("rule", badge.rule(), oracle.rule());
        }
        if (rules > 0) {
            same("force", badge.force(3), oracle.force(3));
        }
        for (int day = 0; day < 5; day++) {
            same("day", badge.day(), oracle.day());
            same("attempt", badge.attempt(day, 5 - day), oracle.attempt(day, 5 - day));
            same("sham", badge.sham(5 - day, 2), oracle.sham(5 - day, 2));
        }
        same("note", badge.note(3, 0, 0, 1), oracle.note(3, 0, 0, 1));
        same("image", badge.image(1), oracle.image(1));
        same("seed", badge.seed(12345), oracle.seed(12345));
    }

    private void tell(String text) {
        Checks.tell(badge, text);
        oracle.tape.setLength(0);
        oracle.tape.append(text);
    }

    private void same(String call, int got, int want) {
        checks.due(state + call, got, want);
    }

    /** All rows of up to two edges; of more numbers some, most of them within the limits. */
    private List<Object[]> arguments(int size) {
        List<Object[]> all = new ArrayList<>();
        if (size <= 2) {
            int rows = (int) Math.pow(EDGES.length, size);
            for (int row = 0; row < rows; row++) {
                Object[] one = new Object[size];
                for (int i = 0, rest = row; i < size; i++, rest /= EDGES.length) {
                    one[i] = EDGES[rest % EDGES.length];
                }
                all.add(one);
            }
            return all;
        }
        for (int at = 0; at < size; at++) {
            for (int edge : EDGES) {
                for (int other = 0; other <= 2; other++) {
                    Object[] one = new Object[size];
                    Arrays.fill(one, other);
                    one[at] = edge;
                    all.add(one);
                }
            }
        }
        for (int i = 0; i < SAMPLES; i++) {
            Object[] one = new Object[size];
            for (int at = 0; at < size; at++) {
                one[at] = EDGES[random.nextInt(EDGES.length)];
            }
            all.add(one);
        }
        return all;
    }

    private void ask(Method method, Object[] arguments) {
        String call = method.getName() + Arrays.toString(arguments);
        try {
            Method told = Oracle.class.getDeclaredMethod(method.getName(),
                    method.getParameterTypes());
            same(call, (int) method.invoke(badge, arguments), (int) told.invoke(oracle, arguments));
        } catch (InvocationTargetException thrown) {
            checks.due(state + call + " threw " + thrown.getCause(), 0, 1);
        } catch (ReflectiveOperationException missing) {
            checks.due(state + call + " can't be asked: " + missing, 0, 1);
        }
    }
}
