import java.io.IOException;
import java.lang.reflect.Method;
import java.lang.reflect.Modifier;
import java.nio.file.Files;
import java.nio.file.Path;
import java.util.ArrayList;
import java.util.List;
import java.util.regex.Matcher;
import java.util.regex.Pattern;

/**
 * README.md tells each call of the face, and its example answers what stands beside each line. Run
 * it where README.md is.
 */
public final class ReadmeTest {
    private static final Pattern ANSWERED = Pattern.compile(
        "^(?:int (\\w+) = )?x\\.(\\w+)\\((.*?)\\); +// (-?\\d+|true|false)(?::.*)?$");
    private static final List<String> names = new ArrayList<>();
    private static final List<String> values = new ArrayList<>();
    private static int wrong = 0;
    private static int asked = 0;

    private static void due(String what, String got, String want) {
        asked++;
        if (!got.equals(want)) {
            wrong++;
            System.out.println(what + " answered " + got + ", due is " + want);
        }
    }

    public static void main(String[] args) throws IOException, ReflectiveOperationException {
        String text = Files.readString(Path.of("README.md"));
        eachCallIsTold(text);
        int begin = text.indexOf("```java\n") + "```java\n".length();
        example(text.substring(begin, text.indexOf("```", begin)));
        System.out.println(asked + " answers asked, " + wrong + " wrong");
        if (wrong != 0) {
            System.exit(1);
        }
    }

    private static void eachCallIsTold(String text) {
        due("a row for the constructor", "" + text.contains("| `TwoEndSearch(int places)` |"), "true");
        for (Method method : TwoEndSearch.class.getDeclaredMethods()) {
            if (Modifier.isPublic(method.getModifiers())) {
                String row = "| `" + method.getReturnType() + " " + method.getName() + "(";
                due("a row for " + method.getName(), "" + text.contains(row), "true");
            }
        }
    }

    /** Each line but the first and the one of clear() has its answer behind it. */
    private static void example(String lines) throws ReflectiveOperationException {
        TwoEndSearch x = new TwoEndSearch(4);
        for (String line : lines.split("\n")) {
            Matcher told = ANSWERED.matcher(line);
            if (told.matches()) {
                String got = "" + answer(x, told.group(2), told.group(3));
                due(line, got, told.group(4));
                keep(told.group(1), got);
            } else if (line.startsWith("x.clear();")) {
                x.clear();
            } else if (!line.isEmpty()) {
                due("a line that can be run", line.replaceAll(" +//.*", ""), "TwoEndSearch x = new TwoEndSearch(4);");
            }
        }
        due("lines with an answer", "" + (asked > 30), "true");
    }

    private static void keep(String name, String value) {
        if (name != null) {
            names.add(name);
            values.add(value);
        }
    }

    private static Object answer(TwoEndSearch x, String name, String given) throws ReflectiveOperationException {
        for (Method method : TwoEndSearch.class.getDeclaredMethods()) {
            if (method.getName().equals(name) && Modifier.isPublic(method.getModifiers())) {
                String[] words = given.isEmpty() ? new String[0] : given.split(", ");
                Class<?>[] types = method.getParameterTypes();
                Object[] values = new Object[types.length];
                for (int i = 0; i < types.length; i++) {
                    values[i] = value(types[i], words[i]);
                }
                return method.invoke(x, values);
            }
        }
        return "no such call";
    }

    private static Object value(Class<?> type, String word) {
        int kept = names.indexOf(word);
        String plain = kept >= 0 ? values.get(kept) : word;
        if (type == boolean.class) {
            return plain.equals("true");
        }
        // decode reads a number that begins with 0 in base 8, as Java does.
        return type == long.class ? (Object) Long.decode(plain) : (Object) Integer.decode(plain);
    }
}
