import java.lang.reflect.Constructor;
import java.lang.reflect.Field;
import java.lang.reflect.Method;
import java.lang.reflect.Modifier;
import java.util.ArrayList;
import java.util.Arrays;
import java.util.Collections;
import java.util.List;

/** The public face: just the members of the document, with what they throw; and LANGUAGE.md's rule 1. */
public final class FaceTest {
    private static final String B = " throws IndexOutOfBoundsException";
    private static final String BA = B + ", IllegalArgumentException";
    private static final String BS = B + ", IllegalStateException";
    private static final String BAS = BA + ", IllegalStateException";

    private static final String[] METHODS = {
        "boolean setTask(int, int, int, int, int)" + BA,
        "int removeTask(int, int)" + BAS,
        "boolean setNeed(int, int, int, boolean)" + BAS,
        "int undo(int)" + BS,
        "int tasks(int)" + B,
        "int length(int, int)" + BA,
        "int crew(int, int)" + BA,
        "int needs(int, int)" + BA,
        "int cost(int)" + B,
        "int begin(int)" + BS,
        "int branches()",
        "int parent(int)" + B,
        "int setBudget(int, int)" + BA,
        "int resolve(int, int, int)" + BAS,
        "int clashes(int)" + B,
        "int reason(int, boolean)" + BS,
        "int reasonTask(int, boolean)" + BS,
        "int merge(int)" + BS,
        "int update(int)" + BS,
        "int give(int, int)" + BA,
        "int lend(int, int, int, int)" + BAS,
        "int holder(int, int) throws IllegalArgumentException",
        "int tail(int, int)" + BA,
        "int slack(int, int)" + BA,
        "int critical(int)" + B,
        "int way(int)" + B,
        "int firstDay(int, int)" + BA,
        "int leftOut(int)" + B,
        "int lastDay(int)" + B,
        "int lastDayByAll(int)" + BS,
        "int taskOn(int, int, int)" + BA,
    };

    private static final String[] CONSTANTS = {
        "NONE = -1", "OWN = 0", "PARENT = 1",
        "CLASH = 1", "MISSING = 2", "RING = 3", "BUDGET = 4", "STUCK = 5",
    };

    public static void main(String[] args) throws Exception {
        Class<?> face = PlanBranches.class;
        Check.due("public and final", Modifier.toString(face.getModifiers()), "public final");
        Check.due("methods", methods(face), sorted(Arrays.asList(METHODS)));
        Check.due("constants", constants(face), sorted(Arrays.asList(CONSTANTS)));
        Constructor<?>[] made = face.getDeclaredConstructors();
        Check.due("constructors", made.length, 1);
        Check.due("constructor", made[0].toString(), "public PlanBranches()");
        innerClasses(face);
        Check.end();
    }

    private static String methods(Class<?> face) {
        List<String> found = new ArrayList<>();
        for (Method method : face.getDeclaredMethods()) {
            if (method.isSynthetic() || Modifier.isPrivate(method.getModifiers())) {
                continue;
            }
            Check.due("modifiers of " + method, Modifier.toString(method.getModifiers()), "public");
            String thrown = names(method.getExceptionTypes());
            found.add(method.getReturnType().getSimpleName() + " " + method.getName()
                    + "(" + names(method.getParameterTypes()) + ")" + (thrown.isEmpty() ? "" : " throws " + thrown));
        }
        return sorted(found);
    }

    private static String constants(Class<?> face) throws Exception {
        List<String> found = new ArrayList<>();
        for (Field field : face.getDeclaredFields()) {
            if (field.isSynthetic() || Modifier.isPrivate(field.getModifiers())) {
                continue;
            }
            Check.due("modifiers of " + field, Modifier.toString(field.getModifiers()), "public static final");
            found.add(field.getName() + " = " + field.getInt(null));
        }
        return sorted(found);
    }

    /** LANGUAGE.md, rule 1: no class inside is public or protected, and no private method bears a public one's name. */
    private static void innerClasses(Class<?> face) {
        privateMethods(face);
        for (Class<?> inner : face.getDeclaredClasses()) {
            int modifiers = inner.getModifiers();
            Check.due("private or package-visible: " + inner,
                    Modifier.isPublic(modifiers) || Modifier.isProtected(modifiers), false);
            privateMethods(inner);
        }
    }

    private static void privateMethods(Class<?> of) {
        for (Method method : of.getDeclaredMethods()) {
            if (!method.isSynthetic() && Modifier.isPrivate(method.getModifiers())) {
                for (String name : METHODS) {
                    Check.due(method + " against " + name, name.contains(" " + method.getName() + "("), false);
                }
            }
        }
    }

    private static String names(Class<?>[] types) {
        StringBuilder all = new StringBuilder();
        for (Class<?> type : types) {
            all.append(all.length() == 0 ? "" : ", ").append(type.getSimpleName());
        }
        return all.toString();
    }

    private static String sorted(List<String> rows) {
        List<String> all = new ArrayList<>(rows);
        Collections.sort(all);
        return String.join("\n  ", all);
    }
}
