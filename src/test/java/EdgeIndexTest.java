import java.io.File;
import java.lang.reflect.Method;
import java.lang.reflect.Modifier;
import java.util.Set;
import java.util.TreeSet;

/** Each promise has edge cases of its own, and each edge case is run: it bears a name by which it is found. */
public final class EdgeIndexTest {
    private static final Class<?>[] ALL = {EdgeTapeTest.class, EdgeStreetTest.class, EdgeLawTest.class, EdgeTakesTest.class,
        EdgeHandsTest.class, EdgeWalkTest.class, EdgeCutTest.class, EdgePapersTest.class};

    public static void main(String[] args) {
        Check check = new Check("EdgeIndexTest");
        int[] cases = new int[37];
        Set<String> listed = new TreeSet<>();
        Set<String> names = new TreeSet<>();
        listed.add("EdgeIndexTest.java");
        for (Class<?> tests : ALL) {
            listed.add(tests.getName() + ".java");
            for (Method method : tests.getDeclaredMethods()) {
                if (method.getName().matches(Edges.NAMES)) {
                    int promise = Integer.parseInt(method.getName().substring(1, 3));
                    check.due(method + " is of a promise", promise >= 1 && promise <= 36, true);
                    check.due(method + " is the only one of its name", names.add(method.getName()), true);
                    cases[promise]++;
                } else {
                    boolean helps = Modifier.isPrivate(method.getModifiers()) || method.getName().equals("main");
                    check.due(method + " is a case or helps one", helps || method.isSynthetic(), true);
                }
            }
        }
        for (int promise = 1; promise <= 36; promise++) {
            check.due("promise " + promise + " has edge cases", cases[promise] > 0, true);
        }
        Set<String> there = new TreeSet<>();
        String[] files = new File("src/test/java").list((dir, name) -> name.matches("Edge[A-Z][A-Za-z]*Test\\.java"));
        for (String file : files == null ? new String[0] : files) {
            there.add(file);
        }
        check.due("the files " + there + " for " + listed, there.equals(listed), true);
        check.end();
    }
}
