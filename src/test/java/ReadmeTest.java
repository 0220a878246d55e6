import java.io.IOException;
import java.lang.reflect.InvocationTargetException;
import java.lang.reflect.Method;
import java.lang.reflect.Modifier;
import java.nio.file.Files;
import java.nio.file.Path;
import java.util.List;
import java.util.Map;
import java.util.Set;
import java.util.TreeMap;
import java.util.TreeSet;
import java.util.regex.Matcher;
import java.util.regex.Pattern;

/** That the calls told in README.md answer what stands behind them, and that no call of the face is left out there. */
public final class ReadmeTest {
    private static final Pattern NEW = Pattern.compile("HalfHere x = new HalfHere\\(\\);");
    private static final Pattern TELL = Pattern.compile("tell\\(x, \"([^\"]*)\"\\); *// (-?\\d+)\\b.*");
    private static final Pattern CALL = Pattern.compile("x\\.(\\w+)\\(([^)]*)\\); *// (-?\\d+)\\b.*");
    private static final Pattern FENCE = Pattern.compile("```(\\w*)");
    private static final Pattern IN_TABLE = Pattern.compile("`(\\w+)\\(([^)`]*)\\)`");

    private ReadmeTest() {
    }

    public static void main(String[] args) throws IOException, IllegalAccessException, InvocationTargetException {
        List<String> lines = Files.readAllLines(Path.of("README.md"));
        Map<String, Method> face = face();
        Set<String> shown = examples(lines, face);
        // Letters are fed by tell, which the README writes out.
        shown.add("feed");
        shown.add("village");
        Kit.due("calls with an answer in README.md", shown.toString(), face.keySet().toString());
        Kit.due("calls in README.md's table", inTable(lines, face).toString(), face.keySet().toString());
        Kit.end("ReadmeTest");
    }

    private static Map<String, Method> face() {
        Map<String, Method> face = new TreeMap<>();
        for (Method method : HalfHere.class.getDeclaredMethods()) {
            if (Modifier.isPublic(method.getModifiers())) {
                face.put(method.getName(), method);
            }
        }
        return face;
    }

    /** Makes the calls of the examples; the names of those that were made. */
    private static Set<String> examples(List<String> lines, Map<String, Method> face)
        throws IllegalAccessException, InvocationTargetException {
        Set<String> shown = new TreeSet<>();
        HalfHere x = null;
        boolean isJava = false;
        for (String line : lines) {
            Matcher fence = FENCE.matcher(line);
            if (fence.matches()) {
                isJava = fence.group(1).equals("java");
            } else if (isJava && NEW.matcher(line).matches()) {
                x = new HalfHere();
            } else if (isJava && x != null && !line.isBlank()) {
                shown.add(example(x, line, face));
            }
        }
        shown.remove("tell");
        return shown;
    }

    private static String example(HalfHere x, String line, Map<String, Method> face)
        throws IllegalAccessException, InvocationTargetException {
        Matcher tell = TELL.matcher(line);
        if (tell.matches()) {
            Kit.due("README.md: " + line, Kit.tell(x, tell.group(1)), Integer.parseInt(tell.group(2)));
            return "tell";
        }
        Matcher call = CALL.matcher(line);
        boolean isCall = call.matches() && face.containsKey(call.group(1));
        Kit.due("README.md: a call with its answer: " + line, isCall ? 1 : 0, 1);
        if (!isCall) {
            return line;
        }
        Number got = (Number) face.get(call.group(1)).invoke(x, numbers(call.group(2)));
        Kit.due("README.md: " + line, got.longValue(), Long.parseLong(call.group(3)));
        return call.group(1);
    }

    private static Object[] numbers(String told) {
        String[] each = told.isBlank() ? new String[0] : told.split(", *");
        Object[] numbers = new Object[each.length];
        for (int i = 0; i < each.length; i++) {
            numbers[i] = Integer.valueOf(each[i]);
        }
        return numbers;
    }

    /** The calls of the table, each with as many arguments as the face has. */
    private static Set<String> inTable(List<String> lines, Map<String, Method> face) {
        Set<String> found = new TreeSet<>();
        for (String line : lines) {
            Matcher call = IN_TABLE.matcher(line);
            while (line.startsWith("| `") && call.find()) {
                String name = call.group(1);
                int arguments = call.group(2).isBlank() ? 0 : call.group(2).split(",").length;
                int due = face.containsKey(name) ? face.get(name).getParameterCount() : -1;
                Kit.due("arguments of " + name + " in README.md", arguments, due);
                found.add(name);
            }
        }
        return found;
    }
}
