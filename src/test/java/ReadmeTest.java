import java.lang.reflect.Method;
import java.nio.file.Files;
import java.nio.file.Path;
import java.util.HashMap;
import java.util.Map;
import java.util.regex.Matcher;
import java.util.regex.Pattern;

/** Each line of the examples in README.md answers the number that stands behind it, and README.md names each call. */
public final class ReadmeTest {
    private static final Pattern BLOCK = Pattern.compile("(?s)```java\n(.*?)```");
    private static final Pattern LINE = Pattern.compile("books\\.(\\w+)\\(([^)]*)\\);\\s*// (-?\\d+)(?::.*)?");
    private static final String NEW_ONE = "PigeonRolls books = new PigeonRolls();";

    private static int asked = 0;
    private static int wrong = 0;

    private static void complain(String what) {
        wrong++;
        System.out.println(what);
    }

    private static Object[] numbers(String list) {
        if (list.isBlank()) {
            return new Object[0];
        }
        String[] parts = list.split(", ");
        Object[] numbers = new Object[parts.length];
        for (int i = 0; i < parts.length; i++) {
            numbers[i] = Integer.decode(parts[i]);
        }
        return numbers;
    }

    private static void example(String block, Map<String, Method> calls) throws Exception {
        PigeonRolls books = null;
        for (String line : block.split("\n")) {
            Matcher m = LINE.matcher(line);
            if (line.equals(NEW_ONE)) {
                books = new PigeonRolls();
            } else if (books == null || !m.matches() || !calls.containsKey(m.group(1))) {
                complain("no call with its answer: " + line);
            } else {
                asked++;
                Number got = (Number) calls.get(m.group(1)).invoke(books, numbers(m.group(2)));
                if (got.longValue() != Long.parseLong(m.group(3))) {
                    complain(line + " answered " + got);
                }
            }
        }
    }

    public static void main(String[] args) throws Exception {
        String readme = Files.readString(Path.of("README.md"));
        Map<String, Method> calls = new HashMap<>();
        for (Method m : PigeonRolls.class.getDeclaredMethods()) {
            if (java.lang.reflect.Modifier.isPublic(m.getModifiers())) {
                calls.put(m.getName(), m);
                if (!readme.contains("`" + m.getName() + "`")) {
                    complain("not named: " + m.getName());
                }
            }
        }
        int blocks = 0;
        Matcher m = BLOCK.matcher(readme);
        while (m.find()) {
            blocks++;
            example(m.group(1), calls);
        }
        System.out.println(blocks + " examples, " + asked + " answers, " + wrong + " not as due");
        if (wrong != 0 || blocks == 0 || asked == 0) {
            System.exit(1);
        }
    }
}
