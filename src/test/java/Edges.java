import java.lang.reflect.InvocationTargetException;
import java.lang.reflect.Method;
import java.util.Arrays;
import java.util.Comparator;
import java.util.function.Consumer;
import java.util.function.ToLongFunction;

/**
 * The frame of the edge tests. Each edge is a method of its own, named by its promise and its case
 * (p09_late_100_isRefused); all such methods of a class are run, so that none can be forgotten in a list.
 */
final class Edges {
    static final int NONE = SamePassers.NONE;
    static final String NAMES = "p[0-3][0-9]_[A-Za-z0-9]+_[A-Za-z0-9_]+";
    static final int[] FAR = {Integer.MIN_VALUE, -1000, -3, 64, 1000, Integer.MAX_VALUE};

    private static String now = "";
    private static int looked;
    private static int wrong;

    private Edges() {
    }

    static void run(Class<?> tests) {
        Method[] methods = tests.getDeclaredMethods();
        Arrays.sort(methods, Comparator.comparing(Method::getName));
        int cases = 0;
        for (Method method : methods) {
            if (method.getName().matches(NAMES)) {
                runCase(tests, method);
                cases++;
            }
        }
        System.out.println(tests.getName() + ": " + cases + " cases, " + looked + " answers, " + wrong + " not as due");
        if (wrong > 0 || cases == 0) {
            System.exit(1);
        }
    }

    private static void runCase(Class<?> tests, Method method) {
        now = tests.getName() + "." + method.getName();
        int before = looked;
        try {
            method.invoke(null);
        } catch (InvocationTargetException e) {
            tellWrong("threw " + e.getCause());
        } catch (IllegalAccessException e) {
            tellWrong("can not be called");
        }
        if (looked == before) {
            tellWrong("looks at nothing");
        }
    }

    private static void tellWrong(String what) {
        wrong++;
        System.out.println(now + ": " + what);
    }

    static void due(String call, long got, long want) {
        looked++;
        if (got != want) {
            tellWrong(call + " answered " + got + ", due is " + want);
        }
    }

    static void due(String call, boolean got, boolean want) {
        due(call, got ? 1 : 0, want ? 1 : 0);
    }

    /** A row of answers, the first for 0. */
    static void rowDue(String call, ToLongFunction<Integer> got, long... want) {
        for (int i = 0; i < want.length; i++) {
            due(call + " of " + i, got.applyAsLong(i), want[i]);
        }
    }

    /** What is due at the times that are told: tenth, answer, tenth, answer .. */
    static void timesDue(String call, ToLongFunction<Integer> got, int... pairs) {
        for (int i = 0; i + 1 < pairs.length; i += 2) {
            due(call + " at " + pairs[i], got.applyAsLong(pairs[i]), pairs[i + 1]);
        }
    }

    /** A new object with this street, which has no fault. */
    static SamePassers told(String text) {
        SamePassers x = new SamePassers();
        due("street of " + text, Check.street(x, text), 0);
        return x;
    }

    static void well(String text) {
        due("street of " + text, Check.street(new SamePassers(), text), 0);
    }

    /** The FAULT of a STREET lies at the start of what follows the first text. */
    static void fault(String before, String from, int kind) {
        String text = before + from;
        due("street of " + text, Check.street(new SamePassers(), text), kind + 16L * before.length());
    }

    /** The object of which most is told: hands, TAKES, what is TOLD, SIGHTS, two MARKS, signs on the TAPE. */
    static SamePassers rich() {
        SamePassers x = told(Portrait.STREET);
        due("takes", Check.takes(x, "late nun 3;take;turn rex;take;"), 0);
        x.start(0, 1);
        x.turn(1);
        x.take();
        x.late(2, 5);
        x.late(0, 7);
        x.tell(0, 50);
        x.tell(2, 46);
        x.sight(10, 2, true);
        x.sight(40, 8, true);
        x.mark(0, false);
        x.start(2, 4);
        x.sight(50, 8, true);
        x.mark(2, false);
        x.tell(3, 44);
        Check.feed(x, "turn nun;take;take;");
        return x;
    }

    /** A call on the rich object is answered so, and leaves all as it was. */
    static void leavesAll(String call, ToLongFunction<SamePassers> made, long want) {
        leavesAll(call, x -> { }, made, want);
    }

    /** The same, behind what else was done to the rich object. */
    static void leavesAll(String call, Consumer<SamePassers> first, ToLongFunction<SamePassers> made, long want) {
        SamePassers touched = rich();
        SamePassers untouched = rich();
        first.accept(touched);
        first.accept(untouched);
        due(call, made.applyAsLong(touched), want);
        sameDue(call + " leaves all as it was", touched, untouched);
    }

    static void sameDue(String what, SamePassers got, SamePassers want) {
        String gotAll = Portrait.of(got);
        String wantAll = Portrait.of(want);
        looked++;
        if (!gotAll.equals(wantAll)) {
            tellWrong(what + ":\n  " + gotAll + "\n  due is\n  " + wantAll);
        }
    }

    static long asLong(boolean answer) {
        return answer ? 1 : 0;
    }
}
