import java.io.File;
import java.lang.reflect.Method;
import java.lang.reflect.Modifier;
import java.nio.file.Files;
import java.nio.file.Path;
import java.util.HashMap;
import java.util.Map;
import java.util.regex.Matcher;
import java.util.regex.Pattern;

/** What README.md's examples answer is what the class answers, and every call is named there. */
public final class ReadmeTest extends Checks {
    private static final Pattern EXAMPLE = Pattern.compile("(?s)```java\n(.*?)```");
    private static final Pattern MADE = Pattern.compile("StoneHeld x = new StoneHeld\\(\\);");
    private static final Pattern TYPED =
            Pattern.compile("for \\(char c : \"([^\"]*)\"\\.toCharArray\\(\\)\\) x\\.type\\(c\\);");
    private static final Pattern CALLED =
            Pattern.compile("(?:int (\\w+) = )?x\\.(\\w+)\\(([^)]*)\\); *// (-?\\d+)(?:: .*)?");
    private static final Pattern NAMED = Pattern.compile("(?m)^\\| `(\\w+)\\(([^)]*)\\)` \\|");
    private static final int LEAST_EXAMPLES = 5;

    private final Map<String, Integer> names = new HashMap<>();
    private StoneHeld x;

    public static void main(String[] args) throws Exception {
        String page = Files.readString(Path.of("README.md"));
        examples(page);
        everyCall(page);
        everyTest(page);
        end("the README");
    }

    private static void examples(String page) throws Exception {
        says("README.md says how to use the class");
        int examples = 0;
        Matcher example = EXAMPLE.matcher(page);
        while (example.find()) {
            ReadmeTest reader = new ReadmeTest();
            for (String line : example.group(1).split("\n")) {
                reader.play(line);
            }
            examples++;
        }
        holds("there are " + examples + " examples", examples >= LEAST_EXAMPLES);
    }

    private void play(String line) throws Exception {
        Matcher typed = TYPED.matcher(line);
        Matcher called = CALLED.matcher(line);
        if (MADE.matcher(line).matches()) {
            x = new StoneHeld();
        } else if (x != null && typed.matches()) {
            for (char c : typed.group(1).toCharArray()) {
                x.type(c);
            }
        } else if (x != null && called.matches()) {
            ask(line, called);
        } else {
            holds("this line can't be played: " + line, false);
        }
    }

    private void ask(String line, Matcher called) throws Exception {
        String numbers = called.group(3);
        String[] parts = numbers.isEmpty() ? new String[0] : numbers.split(", ");
        Class<?>[] types = new Class<?>[parts.length];
        Object[] values = new Object[parts.length];
        for (int k = 0; k < parts.length; k++) {
            types[k] = int.class;
            values[k] = number(parts[k]);
        }
        Method method = StoneHeld.class.getMethod(called.group(2), types);
        long got = ((Number) method.invoke(x, values)).longValue();
        due(line, got, Long.parseLong(called.group(4)));
        if (called.group(1) != null) {
            names.put(called.group(1), (int) got);
        }
    }

    private int number(String part) {
        if (part.equals("StoneHeld.NONE")) {
            return StoneHeld.NONE;
        }
        return names.containsKey(part) ? names.get(part) : Integer.parseInt(part);
    }

    private static void everyCall(String page) {
        says("README.md says how to use the class");
        Map<String, Integer> told = new HashMap<>();
        Matcher named = NAMED.matcher(page);
        while (named.find()) {
            String numbers = named.group(2);
            told.put(named.group(1), numbers.isEmpty() ? 0 : numbers.split(", ").length);
        }
        for (Method method : StoneHeld.class.getDeclaredMethods()) {
            if (Modifier.isPublic(method.getModifiers())) {
                holds("README.md doesn't tell " + method,
                        told.getOrDefault(method.getName(), -1) == method.getParameterCount());
            }
        }
    }

    private static void everyTest(String page) {
        says("README.md says .. how to run its tests");
        String[] files = new File("src/test/java").list();
        holds("there are no tests", files != null && files.length > 0);
        for (String file : files) {
            holds("README.md doesn't tell " + file, page.contains(file.replace(".java", "")));
        }
        holds("README.md doesn't tell .ci/run", page.contains("\n.ci/run\n"));
    }
}
