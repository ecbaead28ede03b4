import java.io.IOException;
import java.lang.reflect.InvocationTargetException;
import java.lang.reflect.Method;
import java.lang.reflect.Modifier;
import java.nio.file.Files;
import java.nio.file.Path;
import java.util.ArrayList;
import java.util.List;
import java.util.Map;
import java.util.TreeMap;
import java.util.regex.Matcher;
import java.util.regex.Pattern;

/** What README.md shows of the class is true: its calls are made, and each answer that it names is compared. */
public final class ReadmeTest {
    private static final Path README = Path.of("README.md");
    private static final String NEW_OBJECT = "PairedTrees x = new PairedTrees();";
    // int name = x.call(arguments);   // answer: words
    private static final Pattern CALL = Pattern.compile(
            "(?:(int|long) (\\w+) = )?x\\.(\\w+)\\(([^)]*)\\); +// (throws \\w+|[A-Z]+|-?\\d+)(?:: .+)?");
    // | `call(parameters)` | what it does and answers | refusals |
    private static final Pattern CALL_ROW = Pattern.compile("\\| `(\\w+)\\(([^)]*)\\)` \\|.*\\|.*\\|");
    // | number | name | lowest .. highest | at first |
    private static final Pattern SETTING_ROW =
            Pattern.compile("\\| (\\d) \\| [A-Z]+ \\|.*\\| (\\d+) \\.\\. (\\d+) \\| (\\d+) \\|");

    private static final Due DUE = new Due("README.md: ");

    private final Map<String, Method> face = new TreeMap<>();
    private final Map<String, Integer> names = new TreeMap<>();
    private PairedTrees x;

    private ReadmeTest() {
        for (Method method : PairedTrees.class.getDeclaredMethods()) {
            if (Modifier.isPublic(method.getModifiers())) {
                face.put(method.getName(), method);
            }
        }
    }

    public static void main(String[] args) throws IOException, ReflectiveOperationException {
        List<String> lines = Files.readAllLines(README);
        ReadmeTest test = new ReadmeTest();
        test.shownCalls(lines);
        test.tableOfCalls(lines);
        test.tableOfSettings(lines);
        DUE.end();
    }

    private void shownCalls(List<String> lines) throws ReflectiveOperationException {
        Map<String, String> shown = new TreeMap<>();
        boolean isCode = false;
        for (String line : lines) {
            if (line.startsWith("```")) {
                isCode = line.equals("```java");
            } else if (isCode && line.equals(NEW_OBJECT)) {
                x = new PairedTrees();
                names.clear();
            } else if (isCode && !line.isBlank()) {
                Matcher call = CALL.matcher(line);
                boolean isCall = call.matches() && face.containsKey(call.group(3));
                DUE.is("a call with its answer [" + line + "]", isCall ? 1 : 0, 1);
                if (isCall) {
                    shown.put(call.group(3), "");
                    make(line, call);
                }
            }
        }
        DUE.check("the calls shown", shown.keySet().toString(), face.keySet().toString());
    }

    private void make(String line, Matcher call) throws ReflectiveOperationException {
        Method method = face.get(call.group(3));
        Object[] arguments = arguments(call.group(4));
        DUE.is("arguments of [" + line + "]", arguments.length, method.getParameterCount());
        if (arguments.length != method.getParameterCount()) {
            return;
        }
        String answer = outcome(method, arguments);
        DUE.check("[" + line + "]", answer, due(call.group(5)));
        if (call.group(1) != null) {
            DUE.check("type of [" + line + "]", call.group(1), method.getReturnType().getName());
            names.put(call.group(2), Integer.valueOf(answer));
        }
    }

    private Object[] arguments(String text) throws ReflectiveOperationException {
        List<Object> all = new ArrayList<>();
        for (String one : text.isEmpty() ? new String[0] : text.split(", ")) {
            if (one.startsWith("PairedTrees.")) {
                all.add(constant(one.substring("PairedTrees.".length())));
            } else {
                all.add(names.containsKey(one) ? names.get(one) : Integer.valueOf(one));
            }
        }
        return all.toArray();
    }

    private String outcome(Method method, Object[] arguments) throws IllegalAccessException {
        try {
            return method.invoke(x, arguments).toString();
        } catch (InvocationTargetException e) {
            return "throws " + e.getCause().getClass().getSimpleName();
        }
    }

    private static String due(String told) throws ReflectiveOperationException {
        return told.matches("[A-Z]+") ? Integer.toString(constant(told)) : told;
    }

    private static int constant(String name) throws ReflectiveOperationException {
        return PairedTrees.class.getField(name).getInt(null);
    }

    private void tableOfCalls(List<String> lines) {
        Map<String, Integer> told = new TreeMap<>();
        for (String line : lines) {
            Matcher row = CALL_ROW.matcher(line);
            if (row.matches()) {
                DUE.is("rows before that of " + row.group(1), told.containsKey(row.group(1)) ? 1 : 0, 0);
                told.put(row.group(1), row.group(2).isEmpty() ? 0 : row.group(2).split(", ").length);
            }
        }
        Map<String, Integer> want = new TreeMap<>();
        for (Method method : face.values()) {
            want.put(method.getName(), method.getParameterCount());
        }
        DUE.check("the table of calls", told.toString(), want.toString());
    }

    private void tableOfSettings(List<String> lines) {
        PairedTrees fresh = new PairedTrees();
        int rows = 0;
        for (String line : lines) {
            Matcher row = SETTING_ROW.matcher(line);
            if (row.matches()) {
                int what = Integer.parseInt(row.group(1));
                int lowest = Integer.parseInt(row.group(2));
                int highest = Integer.parseInt(row.group(3));
                DUE.is("rows before that of setting " + what, rows, what);
                DUE.is("below the lowest in [" + line + "]", fresh.setting(what, lowest - 1), PairedTrees.OUTSIDE);
                DUE.is("above the highest in [" + line + "]", fresh.setting(what, highest + 1), PairedTrees.OUTSIDE);
                DUE.is("at first in [" + line + "]", fresh.setting(what, lowest), Integer.parseInt(row.group(4)));
                DUE.is("the lowest in [" + line + "]", fresh.setting(what, highest), lowest);
                DUE.is("the highest in [" + line + "]", fresh.setting(what, lowest), highest);
                rows++;
            }
        }
        DUE.is("the settings in the table", rows, 4);
        DUE.is("a setting more", fresh.setting(rows, 1), PairedTrees.OUTSIDE);
    }
}
