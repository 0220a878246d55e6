import java.lang.management.ManagementFactory;
import java.lang.reflect.Constructor;
import java.lang.reflect.Field;
import java.lang.reflect.Method;
import java.lang.reflect.Modifier;
import java.nio.file.Files;
import java.nio.file.Path;
import java.util.ArrayList;
import java.util.Arrays;
import java.util.List;
import java.util.TreeSet;
import java.util.regex.Matcher;
import java.util.regex.Pattern;

/** What of ../shared/LANGUAGE.md can be looked at from outside: the face, the words used, the room taken. */
public final class LanguageTest {
    private static final String FACE = "at(II)I best()I chance(IIII)J count(I)I does(II)I feed(I)I few(II)I go(II)I image()I "
        + "join(II)I judge(I)I known(II)I lose(I)I minutes(II)I must()I on()I partOf(II)I person(II)I plan(I)I planned(III)I "
        + "quarters(II)I rest(II)I row(I)I see(I)I split(II)I thin(I)I together(II)I toil(II)I village()I well(II)I with(I)I work(II)I";
    private static final String[] FORBIDDEN = {
        "throw", "throws", "try", "catch", "finally", "synchronized", "assert", "import", "package", "protected", "native",
        "volatile", "equals", "hashCode", "toString", "->", "::", "Random", "Thread", "float", "double", "Object",
        "nanoTime", "currentTimeMillis", "StackOverflowError", "null", "instanceof",
    };

    private LanguageTest() {
    }

    public static void main(String[] args) throws Exception {
        face();
        members();
        words();
        methods();
        room();
        Kit.end("LanguageTest");
    }

    private static String told(Class<?> type) {
        return type == int.class ? "I" : type == long.class ? "J" : type.getName();
    }

    private static void face() {
        TreeSet<String> names = new TreeSet<>();
        TreeSet<String> words = new TreeSet<>();
        for (Method method : HalfHere.class.getDeclaredMethods()) {
            if (Modifier.isPrivate(method.getModifiers())) {
                continue;
            }
            StringBuilder all = new StringBuilder(method.getName()).append('(');
            for (Class<?> type : method.getParameterTypes()) {
                all.append(told(type));
            }
            words.add(all.append(')').append(told(method.getReturnType())).toString());
            names.add(method.getName());
            Kit.due(method.getName() + " is public alone", method.getModifiers(), Modifier.PUBLIC);
        }
        Kit.due("the face", String.join(" ", words), FACE);
        for (Method method : HalfHere.class.getDeclaredMethods()) {
            if (Modifier.isPrivate(method.getModifiers())) {
                Kit.due("a private method with a public name: " + method.getName(), names.contains(method.getName()) ? 1 : 0, 0);
            }
        }
        Kit.due("the class", HalfHere.class.getModifiers(), Modifier.PUBLIC | Modifier.FINAL);
        Constructor<?>[] all = HalfHere.class.getDeclaredConstructors();
        Kit.due("constructors", all.length, 1);
        Kit.due("the constructor", all[0].getModifiers(), Modifier.PUBLIC);
        Kit.due("its parameters", all[0].getParameterCount(), 0);
    }

    private static void members() {
        List<Class<?>> classes = new ArrayList<>(Arrays.asList(HalfHere.class.getDeclaredClasses()));
        Kit.due("twelve classes at most", classes.size() + 1 <= 12 ? 1 : 0, 1);
        for (Class<?> inner : classes) {
            Kit.due(inner.getName() + " is static", Modifier.isStatic(inner.getModifiers()) ? 1 : 0, 1);
            Kit.due(inner.getName() + " is not public", Modifier.isPublic(inner.getModifiers()) ? 1 : 0, 0);
        }
        classes.add(HalfHere.class);
        for (Class<?> one : classes) {
            int fields = 0;
            for (Field field : one.getDeclaredFields()) {
                boolean isStatic = Modifier.isStatic(field.getModifiers());
                fields += isStatic ? 0 : 1;
                Kit.due(one.getName() + "." + field.getName() + " is final, if static",
                    !isStatic || Modifier.isFinal(field.getModifiers()) ? 1 : 0, 1);
                Kit.due(one.getName() + "." + field.getName() + " is private, if of the class itself",
                    one != HalfHere.class || Modifier.isPrivate(field.getModifiers()) ? 1 : 0, 1);
            }
            Kit.due(one.getName() + " has twenty fields at most", fields <= 20 ? 1 : 0, 1);
            for (Method method : one.getDeclaredMethods()) {
                Kit.due(method.getName() + " takes seven at most", method.getParameterCount() <= 7 ? 1 : 0, 1);
            }
        }
    }

    private static String source() throws Exception {
        return Files.readString(Path.of("src/main/java/HalfHere.java"));
    }

    private static String withoutComments(String source) {
        return source.replaceAll("(?s)/\\*.*?\\*/", "").replaceAll("//[^\n]*", "");
    }

    private static void words() throws Exception {
        String source = source();
        for (int i = 0; i < source.length(); i++) {
            if (source.charAt(i) > 126) {
                Kit.due("the sign at " + i, source.charAt(i), 126);
            }
        }
        String code = withoutComments(source);
        for (String word : FORBIDDEN) {
            String pattern = Character.isLetter(word.charAt(0)) ? "\\b" + word + "\\b" : Pattern.quote(word);
            Kit.due("in the code: " + word, Pattern.compile(pattern).matcher(code).find() ? 1 : 0, 0);
        }
        // Objects are made in constructors alone; a constructor begins with its class's name.
        Matcher matcher = Pattern.compile("(?m)^( +)(?:public )?([A-Z]\\w*)\\(\\) \\{\n(?s:.*?)\n\\1\\}").matcher(code);
        String rest = matcher.replaceAll("");
        Kit.due("made outside constructors", Pattern.compile("\\bnew\\b").matcher(rest).find() ? 1 : 0, 0);
        Kit.due("made in constructors", Pattern.compile("\\bnew\\b").matcher(code).find() ? 1 : 0, 1);
    }

    private static void methods() throws Exception {
        String[] lines = source().split("\n");
        int start = -1;
        String end = "";
        for (int i = 0; i < lines.length; i++) {
            Matcher matcher = Pattern.compile("^( {4}| {8})(?! )[\\w\\[\\]<> ]+\\(.*\\) \\{$").matcher(lines[i]);
            if (start < 0 && matcher.matches()) {
                start = i;
                end = matcher.group(1) + "}";
            } else if (start >= 0 && lines[i].equals(end)) {
                Kit.due("sixty lines at most: " + lines[start].trim(), i - start < 60 ? 1 : 0, 1);
                start = -1;
            }
        }
    }

    /** The dearest calls make no object: what a run takes is taken by its constructor. */
    private static void room() {
        com.sun.management.ThreadMXBean threads = (com.sun.management.ThreadMXBean) ManagementFactory.getThreadMXBean();
        HalfHere[] all = new HalfHere[20];
        for (int i = 0; i < all.length; i++) {
            all[i] = Kit.told("w01,1;p9,9,9,1;p8,8,8,1;p7,7,7,1;", "kp07,7,7,1;kt09,9,9,2;kw08,8,8,3;");
            everyCall(all[i]);
        }
        long me = Thread.currentThread().getId();
        long before = threads.getThreadAllocatedBytes(me);
        for (HalfHere x : all) {
            // Five times and what was told stay within the 512 calls of an object.
            for (int i = 0; i < 5; i++) {
                everyCall(x);
            }
        }
        long made = threads.getThreadAllocatedBytes(me) - before;
        Kit.due("bytes made by 100 times every call, above 100000", made > 100000 ? made : 0, 0);
    }

    private static void everyCall(HalfHere x) {
        x.image();
        x.feed('n');
        x.feed('6');
        x.feed(';');
        x.village();
        x.split(0, 3);
        x.go(3, 1);
        x.see(3);
        x.go(3, 0);
        x.at(3, 0);
        x.toil(3, 5);
        x.rest(3, 5);
        x.does(0, 0);
        x.well(0, 0);
        x.join(0, 3);
        for (int kind = 0; kind <= 3; kind++) {
            x.plan(kind);
            x.planned(kind, 0, 0);
        }
        x.best();
        x.quarters(0, 0);
        x.must();
        x.with(1);
        x.thin(0);
        x.few(0, 0);
        x.chance(0, 5, 0, 0);
        x.together(0, 0);
        x.known(0, 0);
        x.row(4);
        x.judge(0);
        x.lose(0);
        x.count(4);
        x.minutes(0, 1);
        x.on();
    }
}
