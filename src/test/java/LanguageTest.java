import java.lang.management.ManagementFactory;
import java.lang.reflect.Field;
import java.lang.reflect.Method;
import java.lang.reflect.Modifier;
import java.nio.file.Files;
import java.nio.file.Path;
import java.util.Arrays;
import java.util.List;
import java.util.Set;
import java.util.TreeSet;
import java.util.regex.Matcher;
import java.util.regex.Pattern;

/** What of ../shared/LANGUAGE.md can be seen from the source, the class and its use of room. */
public final class LanguageTest {
    private static final Set<String> FACE = new TreeSet<>(List.of(
            "int people()", "int thing(int,int)", "int one(int,int,int)", "int type(int)", "int clear()",
            "int read()", "int owns(int,int)", "int leaves(int)", "int years(int)", "int undo()",
            "int of(int,int)", "int about(int,int)", "int lifts(int,int)", "int weighs(int,int)", "int held()",
            "int left(int)", "int when(int)", "int lasts(int,int)", "int match(int,int)", "int light(int)",
            "int two(int,int)", "int seen(int,int,int,int)", "int strong(int,int)", "int tell(int)",
            "int note(int,int,int,int)", "int mark(int,int,int,int)", "int forget(int)", "int is(int)",
            "int look(int)", "int kinds(int)", "int ask(int)", "int tries(int,int,int)",
            "int shout(int,int,int)", "int centuries(int,int)", "long part(int)", "int image(int)",
            "int from(int)", "int status(int)", "int count(int)", "long digest()"));
    private static final Set<String> LIBRARY = Set.of("Math.min", "Math.max", "Integer.bitCount");
    private static final int MOST_LINES = 60;
    private static final int CALLS = 512;
    private static final int ROOM_PER_CALL = 64;

    private static int wrong = 0;

    public static void main(String[] args) throws Exception {
        face();
        names();
        words(Files.readString(Path.of("src/main/java/StoneHeld.java")));
        room();
        System.out.println(wrong == 0 ? "language: all rules hold" : "language: " + wrong + " rules are broken");
        if (wrong != 0) {
            System.exit(1);
        }
    }

    private static void holds(boolean good, String rule) {
        if (!good) {
            wrong++;
            System.out.println("broken: " + rule);
        }
    }

    private static void face() {
        Class<?> face = StoneHeld.class;
        holds(Modifier.isFinal(face.getModifiers()) && Modifier.isPublic(face.getModifiers()), "1 public final");
        Set<String> seen = new TreeSet<>();
        for (Method method : face.getDeclaredMethods()) {
            if (!Modifier.isPrivate(method.getModifiers())) {
                String types = Arrays.toString(method.getParameterTypes()).replaceAll("[\\[\\] ]", "");
                seen.add(method.getReturnType() + " " + method.getName() + "(" + types + ")");
            }
        }
        holds(seen.equals(FACE), "1 the face's methods: " + seen);
        Set<String> constants = new TreeSet<>();
        for (Field field : face.getDeclaredFields()) {
            if (!Modifier.isPrivate(field.getModifiers())) {
                constants.add(field.getName());
            }
            holds(!Modifier.isStatic(field.getModifiers()) || Modifier.isFinal(field.getModifiers()),
                    "5 static and not final: " + field);
        }
        holds(constants.equals(new TreeSet<>(List.of("NONE", "BAD", "NO", "FULL"))), "1 constants: " + constants);
        holds(face.getDeclaredConstructors().length == 1, "1 one constructor");
    }

    private static void names() {
        Set<String> open = new TreeSet<>();
        for (Method method : StoneHeld.class.getMethods()) {
            open.add(method.getName());
        }
        Class<?>[] inside = StoneHeld.class.getDeclaredClasses();
        holds(inside.length <= 11, "11 classes: " + inside.length);
        for (Method method : StoneHeld.class.getDeclaredMethods()) {
            holds(Modifier.isPublic(method.getModifiers()) || !open.contains(method.getName()),
                    "1 a private method bears a public one's name: " + method);
        }
        for (Class<?> one : inside) {
            holds(Modifier.isStatic(one.getModifiers()), "2 not static: " + one);
            int fields = 0;
            for (Field field : one.getDeclaredFields()) {
                fields += Modifier.isStatic(field.getModifiers()) ? 0 : 1;
            }
            holds(fields <= 20, "11 fields of " + one + ": " + fields);
            for (Method method : one.getDeclaredMethods()) {
                holds(!open.contains(method.getName()), "1 a method bears a public one's name: " + method);
                holds(method.getParameterCount() <= 7, "11 parameters: " + method);
            }
        }
    }

    private static void words(String source) {
        String code = source.replaceAll("(?s)/\\*.*?\\*/", "").replaceAll("//[^\n]*", "");
        for (String word : List.of("throw", "throws", "try", "catch", "finally", "synchronized", "assert", "import",
                "package", "protected", "volatile", "native", "hashCode", "equals", "toString", "System", "Object",
                "Thread", "Random", "double", "float")) {
            holds(!Pattern.compile("\\b" + word + "\\b").matcher(code).find(), "6 the word " + word);
        }
        holds(!code.contains("->") && !code.contains("::"), "2 a lambda or method reference");
        holds(!code.contains("static {"), "5 a static initialiser");
        Matcher calls = Pattern.compile("\\b(Math|Integer|Long|Arrays|String)\\.\\w+").matcher(code);
        while (calls.find()) {
            holds(LIBRARY.contains(calls.group()), "4 the library's " + calls.group());
        }
        int length = 0;
        for (String line : code.split("\n")) {
            length = line.matches(" {4}(?: {4})?(public|private) .*\\{") ? 0 : length + 1;
            holds(!line.matches(" {4}(?: {4})?\\}") || length <= MOST_LINES, "11 a method of " + length + " lines");
        }
        holds(code.chars().allMatch(c -> c < 128), "3 signs above 127");
    }

    /** No call makes an object; a few bytes are left for the measuring itself. */
    private static void room() {
        com.sun.management.ThreadMXBean threads =
                (com.sun.management.ThreadMXBean) ManagementFactory.getThreadMXBean();
        long me = Thread.currentThread().getId();
        useAll(new StoneHeld());
        StoneHeld x = new StoneHeld();
        long before = threads.getThreadAllocatedBytes(me);
        for (int k = 0; k < CALLS / 8; k++) {
            useAll(x);
        }
        long taken = threads.getThreadAllocatedBytes(me) - before;
        holds(taken <= (long) ROOM_PER_CALL * CALLS, "12 the calls took " + taken + " bytes");
    }

    private static void useAll(StoneHeld x) {
        x.people();
        for (int k = 0; k < 8; k++) {
            x.thing(k % 6, 10 + k);
            x.one(k % 6, 1 + k % 9, 5 * k);
        }
        for (int c : new byte[] {'p', 'e', 'o', 'p', 'l', 'e', ';'}) {
            x.type(c);
        }
        for (int k = 0; k < 7; k++) {
            x.owns(k, k);
            x.match(1 + k, k);
            x.seen(k, k, k, 1);
            x.note(k, 1, k, k);
            x.mark(k, 1, k, k);
            x.tell(k);
            x.look(k);
            x.ask(k);
            x.shout(k, 6, 3);
            x.when(k);
            x.lasts(k, k);
            x.two(k, k);
            x.tries(k, 0, k);
        }
        x.light(1);
        x.left(60);
        x.centuries(5, 60);
        x.years(3);
        x.image(0);
        x.undo();
        x.from(0);
        x.digest();
        x.read();
        x.clear();
    }
}
