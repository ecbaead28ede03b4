import java.lang.reflect.Constructor;
import java.lang.reflect.Field;
import java.lang.reflect.Method;
import java.lang.reflect.Modifier;
import java.util.Arrays;
import java.util.Set;
import java.util.TreeSet;

/** The class has the document's face and shows nothing else. */
public final class FaceTest {
    private static final Due DUE = new Due();

    private static final String[] METHODS = {
        "int thing(int, int)",
        "int grade(int, int)",
        "int feature(int, int, int)",
        "int miss(int, int)",
        "int told(int, int) throws NullPointerException, ArrayIndexOutOfBoundsException",
        "int setting(int, int)",
        "int grow()",
        "int cut()",
        "int node(int, int, int)",
        "long gain(int, int, int)",
        "long score(int)",
        "int value(int, int)",
        "int push(int)",
        "int ranked(int, int)",
        "int pairs(int, int)",
        "int share(int) throws ArithmeticException",
        "int about(int)",
        "int clear()",
    };

    public static void main(String[] args) throws ReflectiveOperationException {
        DUE.is("the class is public and final",
                PairedTrees.class.getModifiers(), Modifier.PUBLIC | Modifier.FINAL);
        constants();
        constructors();
        methods();
        classesInside();
        DUE.end();
    }

    private static void constants() throws ReflectiveOperationException {
        Set<String> seen = new TreeSet<>();
        for (Field field : PairedTrees.class.getDeclaredFields()) {
            int modifiers = field.getModifiers();
            if (!Modifier.isPrivate(modifiers)) {
                seen.add(Modifier.toString(modifiers) + " " + field.getType() + " "
                        + field.getName() + " = " + field.get(null));
            }
            if (Modifier.isStatic(modifiers)) {
                DUE.is(field.getName() + " is final", Modifier.isFinal(modifiers) ? 1 : 0, 1);
            }
        }
        Set<String> want = new TreeSet<>();
        for (String one : new String[] {
            "NONE = -1", "UNKNOWN = -10001", "OUTSIDE = -10002", "FULL = -10003", "STATE = -10004"}) {
            want.add("public static final int " + one);
        }
        DUE.check("the constants", seen.toString(), want.toString());
    }

    private static void constructors() {
        Constructor<?>[] all = PairedTrees.class.getDeclaredConstructors();
        DUE.check("the constructors", Arrays.toString(all), "[public PairedTrees()]");
    }

    private static void methods() {
        Set<String> shown = new TreeSet<>();
        Set<String> shownNames = new TreeSet<>();
        Set<String> hiddenNames = new TreeSet<>();
        for (Method method : PairedTrees.class.getDeclaredMethods()) {
            if (Modifier.isPrivate(method.getModifiers())) {
                hiddenNames.add(method.getName());
            } else {
                shown.add(Modifier.toString(method.getModifiers()) + " " + told(method));
                shownNames.add(method.getName());
            }
        }
        Set<String> want = new TreeSet<>();
        for (String method : METHODS) {
            want.add("public " + method);
        }
        DUE.check("the methods", shown.toString(), want.toString());
        hiddenNames.retainAll(shownNames);
        DUE.check("private methods with a public one's name", hiddenNames.toString(), "[]");
    }

    private static String told(Method method) {
        return method.getReturnType() + " " + method.getName()
                + "(" + names(method.getParameterTypes()) + ")"
                + (method.getExceptionTypes().length == 0 ? "" : " throws " + names(method.getExceptionTypes()));
    }

    private static String names(Class<?>[] types) {
        StringBuilder all = new StringBuilder();
        for (Class<?> type : types) {
            all.append(all.length() == 0 ? "" : ", ").append(type.getSimpleName());
        }
        return all.toString();
    }

    private static void classesInside() {
        for (Class<?> inside : PairedTrees.class.getDeclaredClasses()) {
            int modifiers = inside.getModifiers();
            boolean isHidden = !Modifier.isPublic(modifiers) && !Modifier.isProtected(modifiers);
            DUE.is(inside.getName() + " is hidden and static",
                    isHidden && Modifier.isStatic(modifiers) ? 1 : 0, 1);
        }
    }
}
