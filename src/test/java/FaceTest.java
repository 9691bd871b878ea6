import java.lang.reflect.Constructor;
import java.lang.reflect.Field;
import java.lang.reflect.Method;
import java.lang.reflect.Modifier;
import java.util.ArrayList;
import java.util.Arrays;
import java.util.HashSet;
import java.util.List;
import java.util.Set;
import java.util.TreeSet;

/** The class shows the document's face and nothing else (LANGUAGE.md, rule 1). */
public final class FaceTest {
    private static final String[] METHODS = {
        "int feed(long,long,long)", "int street()", "int takes()", "int walker(int,int)", "int tenth(int)",
        "boolean start(int,int)", "boolean turn(int)", "boolean late(int,int)", "int take()", "boolean undo()",
        "int judged(int)", "int where(int,int)", "int seen(int,int)", "int first(int,int)", "boolean good()",
        "int off(int)", "int until(int,int)", "int unknown()", "int lags(int,int)", "int full(int)",
        "int jump(int,int,int,int,int)", "int best(int,int)", "long row(int,int)", "int wrong()", "int change(int,int)",
        "int other(int,int,int)", "boolean tell(int,int)", "int laws(int) throws NoSuchElementException",
        "int notes(int)", "int whose(int,int,int)", "boolean sight(int,int,boolean)", "int hired(int)",
        "int days(int,int,int)", "boolean mark(int,boolean)", "int count(int)"};

    public static void main(String[] args) {
        Check check = new Check("FaceTest");
        Set<String> publicNames = new HashSet<>();
        Set<String> found = new TreeSet<>();
        for (Method m : SamePassers.class.getDeclaredMethods()) {
            if (!Modifier.isPrivate(m.getModifiers())) {
                found.add(told(m));
                publicNames.add(m.getName());
                check.due(m + " is public and no static one", m.getModifiers(), Modifier.PUBLIC);
            }
        }
        Set<String> due = new TreeSet<>(Arrays.asList(METHODS));
        check.due("the methods " + found + " for " + due, found.equals(due), true);
        for (Class<?> each : classes()) {
            for (Method m : each.getDeclaredMethods()) {
                boolean hidden = each == SamePassers.class && !Modifier.isPrivate(m.getModifiers());
                check.due(m + " bears a public name", !hidden && publicNames.contains(m.getName()), false);
            }
            for (Field f : each.getDeclaredFields()) {
                boolean changing = Modifier.isStatic(f.getModifiers()) && !Modifier.isFinal(f.getModifiers());
                check.due(f + " is a static that changes", changing, false);
            }
        }
        for (Field f : SamePassers.class.getDeclaredFields()) {
            boolean shown = !Modifier.isPrivate(f.getModifiers());
            check.due(f + " is shown", shown, f.getName().equals("NONE"));
        }
        for (Constructor<?> c : SamePassers.class.getDeclaredConstructors()) {
            check.due(c + " is the public one", Modifier.isPublic(c.getModifiers()) && c.getParameterCount() == 0, true);
        }
        for (Class<?> inner : SamePassers.class.getDeclaredClasses()) {
            check.due(inner + " is static and not public", Modifier.isStatic(inner.getModifiers())
                && !Modifier.isPublic(inner.getModifiers()), true);
        }
        check.due("final", Modifier.isFinal(SamePassers.class.getModifiers()), true);
        check.due("NONE", SamePassers.NONE, -1);
        check.due("classes in the file", classes().size() <= 12, true);
        check.end();
    }

    private static List<Class<?>> classes() {
        List<Class<?>> all = new ArrayList<>(Arrays.asList(SamePassers.class.getDeclaredClasses()));
        all.add(SamePassers.class);
        return all;
    }

    private static String told(Method m) {
        List<String> types = new ArrayList<>();
        for (Class<?> t : m.getParameterTypes()) {
            types.add(t.getSimpleName());
        }
        StringBuilder s = new StringBuilder(m.getReturnType().getSimpleName() + " " + m.getName() + "(" + String.join(",", types) + ")");
        for (Class<?> t : m.getExceptionTypes()) {
            s.append(" throws ").append(t.getSimpleName());
        }
        return s.toString();
    }
}
