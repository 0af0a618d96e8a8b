import java.lang.reflect.Method;
import java.util.ArrayList;
import java.util.Arrays;
import java.util.List;
import java.util.TreeSet;

/**
 * Every number of every call at its bounds, in all ways together: the last that is as told and the
 * first that is not, on both sides, and the farthest; with nobody, with some, and with all full.
 */
public final class BoundNumbersTest extends Checks {
    private static final int[] KIND = {0, 5};
    private static final int[] WEIGHT = {1, 30};
    private static final int[] STRENGTH = {1, 9};
    private static final int[] AGE = {0, 99};
    private static final int[] AHEAD = {0, 60};
    private static final int[] FOR = {1, 60};

    /** A call, what it answers to a number that is not as told, and the bounds of its numbers. */
    private record Row(String name, long bad, int[]... bounds) {
    }

    public static void main(String[] args) throws Exception {
        says("Refused, changing nothing but STATUS, the first of: BAD -2 a number is not as told");
        boundsOf(StoneHeld::new, 0, 0);
        boundsOf(Checks::some, 3, 3);
        boundsOf(Checks::most, 7, 7);
        allCallsHaveARow();
        fullComesBehindBad();
        noComesBehindBad();
        end("numbers at their bounds");
    }

    private static List<Row> rows(int people, int things) {
        int[] who = {0, people - 1};
        int[] which = {0, things - 1};
        return List.of(
                new Row("thing", BAD, KIND, WEIGHT),
                new Row("one", BAD, KIND, STRENGTH, AGE),
                new Row("type", BAD, new int[] {0, 127}),
                new Row("owns", BAD, who, which),
                new Row("leaves", BAD, who),
                new Row("years", BAD, FOR),
                new Row("of", BAD, who, new int[] {0, 4}),
                new Row("about", BAD, which, new int[] {0, 2}),
                new Row("lifts", BAD, who, AHEAD),
                new Row("weighs", BAD, which, AHEAD),
                new Row("left", BAD, AHEAD),
                new Row("when", BAD, who),
                new Row("lasts", BAD, who, which),
                new Row("match", -10, FOR, new int[] {NONE, people - 1}),
                new Row("light", BAD, FOR),
                new Row("two", -10, which, new int[] {NONE, GREATEST}),
                new Row("seen", BAD, who, AGE, new int[] {0, 60}, new int[] {0, 1}),
                new Row("strong", BAD, who, new int[] {0, 2}),
                new Row("tell", BAD, who),
                new Row("note", BAD, which, WEIGHT, new int[] {0, 99}, new int[] {0, 99}),
                new Row("mark", BAD, who, STRENGTH, AGE, new int[] {0, 99}),
                new Row("forget", BAD, new int[] {0, 2}),
                new Row("is", BAD, which),
                new Row("look", BAD, which),
                new Row("kinds", BAD, who),
                new Row("ask", BAD, who),
                new Row("tries", BAD, who, who, which),
                new Row("shout", BAD, who, new int[] {0, 6}, new int[] {0, 10}),
                new Row("centuries", BAD, new int[] {0, 999999}, AHEAD),
                new Row("part", BAD, new int[] {0, 1}),
                new Row("image", BAD, new int[] {0, 1}),
                new Row("from", BAD, new int[] {0, 1}),
                new Row("status", -1, new int[] {0, 2}),
                new Row("count", BAD, new int[] {0, 9}));
    }

    private static void allCallsHaveARow() {
        TreeSet<String> missing = new TreeSet<>();
        for (Method method : StoneHeld.class.getDeclaredMethods()) {
            if (java.lang.reflect.Modifier.isPublic(method.getModifiers()) && method.getParameterCount() > 0) {
                missing.add(method.getName());
            }
        }
        for (Row row : rows(1, 1)) {
            missing.remove(row.name);
        }
        holds("no row for " + missing, missing.isEmpty());
    }

    private static void boundsOf(Maker maker, int people, int things) throws Exception {
        for (Row row : rows(people, things)) {
            for (int[] values : waysOf(row)) {
                if (isAsTold(row, values)) {
                    taken(maker, row, values);
                } else {
                    refused(maker, shown(row, values), callOf(row, values), row.bad, AS_BAD);
                }
            }
        }
    }

    /** It may be refused as NO or FULL there, but its numbers are as told. */
    private static void taken(Maker maker, Row row, int[] values) throws Exception {
        StoneHeld x = maker.make();
        int before = x.status(0);
        long answer = callOf(row, values).ask(x);
        holds(shown(row, values) + " answered " + answer, answer != BAD && answer != -10);
        due(shown(row, values) + ", then status(0)", x.status(0), before);
    }

    private static void fullComesBehindBad() throws Exception {
        says("FULL -4");
        for (Row row : rows(7, 7)) {
            if (List.of("thing", "one", "type", "seen", "note", "mark").contains(row.name)) {
                for (int[] values : waysOf(row)) {
                    if (isAsTold(row, values)) {
                        refused(Checks::most, shown(row, values), callOf(row, values), FULL, AS_FULL);
                    }
                }
            }
        }
    }

    private static void noComesBehindBad() throws Exception {
        says("NO -3 as told");
        Maker lost = () -> {
            StoneHeld x = some();
            x.leaves(0);
            x.years(1);
            return x;
        };
        for (Row row : rows(3, 3)) {
            if (List.of("owns", "leaves", "lasts", "shout").contains(row.name)) {
                for (int[] values : waysOf(row)) {
                    if (isAsTold(row, values)) {
                        refused(lost, shown(row, values), callOf(row, values), NO, AS_NO);
                    }
                }
            }
        }
        refused(StoneHeld::new, "from(0)", x -> x.from(0), NO, AS_NO);
        refused(StoneHeld::new, "from(1)", x -> x.from(1), NO, AS_NO);
        refused(StoneHeld::new, "undo()", x -> x.undo(), NO, AS_NO);
    }

    private static boolean isAsTold(Row row, int[] values) {
        for (int k = 0; k < values.length; k++) {
            if (values[k] < row.bounds[k][0] || values[k] > row.bounds[k][1]) {
                return false;
            }
        }
        return !row.name.equals("tries") || values[0] != values[1];
    }

    private static List<int[]> waysOf(Row row) {
        List<int[]> ways = new ArrayList<>();
        ways.add(new int[0]);
        for (int[] bounds : row.bounds) {
            List<int[]> longer = new ArrayList<>();
            for (int[] way : ways) {
                for (int value : edgesOf(bounds)) {
                    int[] more = Arrays.copyOf(way, way.length + 1);
                    more[way.length] = value;
                    longer.add(more);
                }
            }
            ways = longer;
        }
        return ways;
    }

    private static TreeSet<Integer> edgesOf(int[] bounds) {
        TreeSet<Integer> edges = new TreeSet<>(List.of(LEAST, bounds[0] - 1, bounds[0], bounds[1], GREATEST));
        if (bounds[1] < GREATEST) {
            edges.add(bounds[1] + 1);
        }
        return edges;
    }

    private static String shown(Row row, int[] values) {
        return row.name + Arrays.toString(values).replace('[', '(').replace(']', ')');
    }

    private static Call callOf(Row row, int[] values) throws Exception {
        Class<?>[] types = new Class<?>[values.length];
        Object[] boxed = new Object[values.length];
        for (int k = 0; k < values.length; k++) {
            types[k] = int.class;
            boxed[k] = values[k];
        }
        Method method = StoneHeld.class.getMethod(row.name, types);
        return x -> {
            try {
                return ((Number) method.invoke(x, boxed)).longValue();
            } catch (ReflectiveOperationException thrown) {
                throw new IllegalStateException(shown(row, values) + " threw", thrown);
            }
        };
    }
}
