import java.lang.reflect.Method;
import java.math.BigInteger;
import java.util.ArrayDeque;
import java.util.ArrayList;
import java.util.Arrays;
import java.util.Deque;
import java.util.HashSet;
import java.util.List;
import java.util.Random;
import java.util.Set;
import java.util.regex.Matcher;
import java.util.regex.Pattern;

/**
 * Runs of calls, made by fixed seeds, on StoneHeld and on a model that was written from the
 * document by other ways: every answer, and the digest behind every call, must be the same.
 */
public final class ModelTest {
    private static final int RUNS = 1500;
    private static final int CALLS = 480;
    private static int wrong = 0;

    public static void main(String[] args) throws Exception {
        for (int run = 0; run < RUNS && wrong < 20; run++) {
            new Run(run).play();
        }
        System.out.println(wrong == 0 ? "model: all answers are alike" : "model: " + wrong + " wrong");
        if (wrong != 0) {
            System.exit(1);
        }
    }

    private static final class Run {
        private final int number;
        private final Random random;
        private final StoneHeld real = new StoneHeld();
        private final Model model = new Model();
        private final List<String> calls = new ArrayList<>();
        private boolean alive = true;

        Run(int number) {
            this.number = number;
            this.random = new Random(7919L * number + 13);
        }

        void play() throws Exception {
            switch (number % 5) {
                case 0:
                    tellText(goodText(22, 9));
                    break;
                case 1:
                    tellText(goodText(30, 2));
                    break;
                case 2:
                    fill(7);
                    break;
                case 3:
                    tellText("people;years 99;years 99;years 99;years 99;years 99;years 99;years 99;"
                            + "years 99;years 99;years 95;");
                    fill(4);
                    break;
                default:
                    break;
            }
            while (alive && calls.size() < CALLS) {
                anyCall();
            }
        }

        private void fill(int many) throws Exception {
            for (int k = 0; k < many; k++) {
                call("thing", roll(0, 5), roll(1, 30));
                call("one", roll(0, 5), roll(1, 9), roll(0, 99));
            }
            for (int k = 0; k < many; k++) {
                call("owns", k, (k + number) % many);
            }
        }

        private void tellText(String text) throws Exception {
            call("clear");
            for (int k = 0; k < text.length(); k++) {
                call("type", text.charAt(k));
            }
            call("read");
            if (roll(0, 1) == 0) {
                call("clear");
            }
        }

        /** ITEMS that can stand there, one behind the other; then, in every second text, a fault. */
        private String goodText(int items, int yearsInTen) {
            String text = pick("people;", "people ; ", " people;", "people;");
            Model reader = new Model();
            for (int k = 0; k < items; k++) {
                reader.text = text + anyItem(yearsInTen) + pick(";", ";", ";", "; ", " ;");
                if (reader.text.length() <= 150 && reader.read() > 0) {
                    text = reader.text;
                }
            }
            StringBuilder told = new StringBuilder(text);
            switch (roll(0, 5)) {
                case 0:
                    told.insert(roll(0, told.length()), pick(";", " ", "7", "77", "x", "people", "-", "A",
                            "one 0 1 0;", "{", "`", "/", ":"));
                    break;
                case 1:
                    told.setLength(roll(0, told.length()));
                    break;
                case 2:
                    told.append(anyItem(1)).append(';');
                    break;
                default:
                    break;
            }
            told.setLength(Math.min(150, told.length()));
            return told.toString();
        }

        private String anyItem(int yearsInTen) {
            if (roll(1, 10) <= yearsInTen) {
                return "years " + pick("1", "01", "2", "9", "99", "0", "100");
            }
            switch (roll(0, 4)) {
                case 0:
                    return "thing " + near(0, 5) + pick(" ", "  ") + near(1, 30);
                case 1:
                    return "one" + pick(" ", "") + near(0, 5) + " " + near(1, 9) + " " + near(0, 99);
                case 2:
                case 3:
                    return "own " + roll(0, 4) + " " + roll(0, 4);
                default:
                    return "leave " + roll(0, 4);
            }
        }

        private int who() {
            return near(0, Math.max(0, real.count(0) - 1));
        }

        private int which() {
            return near(0, Math.max(0, real.count(2) - 1));
        }

        private void anyCall() throws Exception {
            switch (roll(0, 44)) {
                case 0: if (roll(0, 40) == 0) call("people"); break;
                case 1: if (roll(0, 2) == 0) call("thing", near(0, 5), near(1, 30)); break;
                case 2: if (roll(0, 2) == 0) call("one", near(0, 5), near(1, 9), near(0, 99)); break;
                case 3: call("type", near(0, 127)); break;
                case 4: if (roll(0, 9) == 0) call("clear"); break;
                case 5: if (roll(0, 9) == 0) call("read"); break;
                case 6: case 7: case 8: call("owns", who(), which()); break;
                case 9: if (roll(0, 1) == 0) call("leaves", who()); break;
                case 10: call("years", roll(0, 9) == 0 ? near(1, 60) : near(1, 3)); break;
                case 11: case 12: case 13: case 14: call("undo"); break;
                case 15: call("of", who(), near(0, 4)); break;
                case 16: call("about", which(), near(0, 2)); break;
                case 17: call("lifts", who(), near(0, 60)); break;
                case 18: call("weighs", which(), near(0, 60)); break;
                case 19: call("held"); break;
                case 20: call("left", near(0, 60)); break;
                case 21: call("when", who()); break;
                case 22: call("lasts", who(), which()); break;
                case 23: case 24: call("match", roll(0, 1) == 0 ? near(1, 60) : near(1, 5), near(-1, 6)); break;
                case 25: call("light", roll(0, 1) == 0 ? near(1, 60) : near(1, 5)); break;
                case 26: call("two", which(), near(-1, 8)); break;
                case 27: case 28: seenCall(); break;
                case 29: call("strong", who(), near(0, 2)); break;
                case 30: call("tell", who()); break;
                case 31: noteCall(); break;
                case 32: markCall(); break;
                case 33: if (roll(0, 1) == 0) call("forget", near(0, 2)); break;
                case 34: call("is", which()); break;
                case 35: call("look", which()); break;
                case 36: call("kinds", who()); break;
                case 37: call("ask", who()); break;
                case 38: call("tries", who(), who(), which()); break;
                case 39: call("shout", who(), near(0, 6), near(0, 10)); call("part", near(0, 1)); break;
                case 40: call("centuries", near(0, 999999), near(0, 60)); break;
                case 41: if (roll(0, 3) == 0) call("image", near(0, 1)); break;
                case 42: call("from", near(0, 1)); break;
                case 43: call("status", near(0, 2)); break;
                default: call("count", near(0, 9)); break;
            }
        }

        /** Most of those SEEN are true for some STRENGTH, or STRONG would soon have none. */
        private void seenCall() throws Exception {
            int i = who();
            int a = near(0, 99);
            int x = near(0, 60);
            int lifted = near(0, 1);
            if (roll(0, 3) > 0 && model.one_(i) && Model.in(a, 0, 99)) {
                lifted = model.now.ones.get(i).sort.lifts(a) >= x ? 1 : 0;
            }
            call("seen", i, a, x, lifted);
        }

        /** Half of the NOTES are true for some KIND, or IS would have no KIND but at once. */
        private void noteCall() throws Exception {
            int w = near(1, 30);
            int y = near(0, 99);
            int x = roll(0, 2) > 0 && Model.in(w, 1, 30) && Model.in(y, 0, 99) ? Model.newThing(roll(0, 5), w).weighs(y) : near(0, 99);
            call("note", which(), w, y, x);
        }

        private void markCall() throws Exception {
            int s = near(1, 9);
            int a = near(0, 99);
            int x = roll(0, 2) > 0 && Model.in(s, 1, 9) && Model.in(a, 0, 99) ? Model.newOne(roll(0, 5), s).lifts(a) : near(0, 99);
            call("mark", who(), s, a, x);
        }

        private void call(String name, int... values) throws Exception {
            if (!alive) {
                return;
            }
            Class<?>[] types = new Class<?>[values.length];
            Object[] boxed = new Object[values.length];
            for (int k = 0; k < values.length; k++) {
                types[k] = int.class;
                boxed[k] = values[k];
            }
            Method mine = StoneHeld.class.getMethod(name, types);
            Method due = Model.class.getDeclaredMethod(name, types);
            String shown = name + Arrays.toString(values);
            calls.add(shown);
            long got = ((Number) mine.invoke(real, boxed)).longValue();
            long want = ((Number) due.invoke(model, boxed)).longValue();
            check(shown, got, want);
            check(shown + " digest", real.digest(), model.digest());
            for (int k = 0; k < 3; k++) {
                check(shown + " status " + k, real.status(k), model.status(k));
            }
        }

        private void check(String shown, long got, long want) {
            if (got != want && alive) {
                wrong++;
                alive = false;
                System.out.println("run " + number + ": " + shown + " answered " + got + ", due is " + want
                        + " behind " + calls);
            }
        }

        private int roll(int least, int most) {
            return least + random.nextInt(most - least + 1);
        }

        /** Now and then just outside what is told, or far from it. */
        private int near(int least, int most) {
            switch (roll(0, 79)) {
                case 0: return least - 1;
                case 1: return most + 1;
                case 2: return roll(0, 1) == 0 ? Integer.MIN_VALUE : Integer.MAX_VALUE;
                case 3: return least;
                case 4: return most;
                default: return roll(least, most);
            }
        }

        private String pick(String... ones) {
            return ones[roll(0, ones.length - 1)];
        }
    }

    /** The document once more, in plain objects, by trying everything. */
    static final class Model {
        static class Stone {
            final int kind;
            final int w;

            Stone(int kind, int w) {
                this.kind = kind;
                this.w = w;
            }

            int weighs(int y) {
                return w;
            }
        }

        static class Bell extends Stone {
            Bell(int kind, int w) {
                super(kind, w);
            }

            @Override int weighs(int y) {
                return super.weighs(y) + 6;
            }
        }

        static class Trunk extends Stone {
            Trunk(int kind, int w) {
                super(kind, w);
            }

            @Override int weighs(int y) {
                int whole = super.weighs(y);
                return whole / 2 + whole % 2;
            }
        }

        static final class Wall extends Bell {
            Wall(int w) {
                super(3, w);
            }

            @Override int weighs(int y) {
                return super.weighs(y) + (y >= 200 ? 20 : y / 10);
            }
        }

        static final class Self extends Trunk {
            Self(int w) {
                super(4, w);
            }

            @Override int weighs(int y) {
                return (y & 1) == 0 ? super.weighs(y) : super.weighs(y) + 9;
            }
        }

        static final class Sister extends Trunk {
            Sister(int w) {
                super(5, w);
            }

            @Override int weighs(int y) {
                return super.weighs(y) + super.weighs(y) - 1;
            }
        }

        static class Plain {
            final int kind;
            final int s;

            Plain(int kind, int s) {
                this.kind = kind;
                this.s = s;
            }

            int lifts(int a) {
                return s + s + (a > 30 ? 10 : a / 3);
            }
        }

        static class Smith extends Plain {
            Smith(int kind, int s) {
                super(kind, s);
            }

            @Override int lifts(int a) {
                return super.lifts(a) + 8;
            }
        }

        static class Weak extends Plain {
            Weak(int kind, int s) {
                super(kind, s);
            }

            @Override int lifts(int a) {
                return super.lifts(a) / 2;
            }
        }

        static final class Lad extends Plain {
            Lad(int s) {
                super(3, s);
            }

            @Override int lifts(int a) {
                int plain = super.lifts(a);
                return a >= 18 ? plain : plain < 6 ? 0 : plain - 6;
            }
        }

        static final class Wedded extends Smith {
            Wedded(int s) {
                super(4, s);
            }

            @Override int lifts(int a) {
                return Integer.toString(a).endsWith("5") ? 2 * super.lifts(a) : super.lifts(a);
            }
        }

        static final class Old extends Weak {
            Old(int s) {
                super(5, s);
            }

            @Override int lifts(int a) {
                int lift = super.lifts(a);
                for (int at = 65; at <= a; at += 5) {
                    lift--;
                }
                return lift < 0 ? 0 : lift;
            }
        }

        static Stone newThing(int kind, int w) {
            return kind == 0 ? new Stone(0, w) : kind == 1 ? new Bell(1, w) : kind == 2 ? new Trunk(2, w)
                    : kind == 3 ? new Wall(w) : kind == 4 ? new Self(w) : new Sister(w);
        }

        static Plain newOne(int kind, int s) {
            return kind == 0 ? new Plain(0, s) : kind == 1 ? new Smith(1, s) : kind == 2 ? new Weak(2, s)
                    : kind == 3 ? new Lad(s) : kind == 4 ? new Wedded(s) : new Old(s);
        }

        static final class One {
            final Plain sort;
            int age;
            int owned = -1;
            boolean here = true;

            One(Plain sort, int age) {
                this.sort = sort;
                this.age = age;
            }

            One copy() {
                One other = new One(sort, age);
                other.owned = owned;
                other.here = here;
                return other;
            }
        }

        static final class State {
            List<Stone> things = new ArrayList<>();
            List<One> ones = new ArrayList<>();
            int year;
            List<int[]> seen = new ArrayList<>();
            List<int[]> notes = new ArrayList<>();
            List<int[]> marks = new ArrayList<>();
            Deque<State> past = new ArrayDeque<>();

            State copy() {
                State other = new State();
                other.things.addAll(things);
                for (One one : ones) {
                    other.ones.add(one.copy());
                }
                other.year = year;
                other.seen.addAll(seen);
                other.notes.addAll(notes);
                other.marks.addAll(marks);
                other.past.addAll(past);
                return other;
            }

            boolean owned(int t) {
                return ones.stream().anyMatch(one -> one.owned == t);
            }

            boolean heldNow(One one) {
                return one.owned >= 0 && things.get(one.owned).weighs(year) > one.sort.lifts(one.age);
            }

            void aYear() {
                for (One one : ones) {
                    if (one.here && heldNow(one)) {
                        one.age = Math.min(99, one.age + 1);
                    } else if (one.here) {
                        one.here = false;
                        one.owned = -1;
                    }
                }
                year++;
            }

            int here() {
                return (int) ones.stream().filter(one -> one.here).count();
            }

            int hereBits() {
                int bits = 0;
                for (int i = 0; i < ones.size(); i++) {
                    bits += ones.get(i).here ? 1 << i : 0;
                }
                return bits;
            }
        }

        State now = new State();
        final State[] images = new State[2];
        String text = "";
        BigInteger above = BigInteger.ZERO;
        BigInteger below = BigInteger.ONE;
        final int[] refused = new int[3];

        int bad() {
            refused[0]++;
            return -2;
        }

        int no() {
            refused[1]++;
            return -3;
        }

        int full() {
            refused[2]++;
            return -4;
        }

        boolean one_(int i) {
            return i >= 0 && i < now.ones.size();
        }

        boolean thing_(int t) {
            return t >= 0 && t < now.things.size();
        }

        static boolean in(int v, int a, int b) {
            return a <= v && v <= b;
        }

        int people() {
            int were = now.ones.size();
            now = new State();
            return were;
        }

        int thing(int kind, int weight) {
            if (!in(kind, 0, 5) || !in(weight, 1, 30)) return bad();
            if (now.things.size() == 7) return full();
            now.things.add(newThing(kind, weight));
            now.past.clear();
            return now.things.size() - 1;
        }

        int one(int kind, int strength, int age) {
            if (!in(kind, 0, 5) || !in(strength, 1, 9) || !in(age, 0, 99)) return bad();
            if (now.ones.size() == 7) return full();
            now.ones.add(new One(newOne(kind, strength), age));
            now.past.clear();
            return now.ones.size() - 1;
        }

        int type(int c) {
            if (!in(c, 0, 127)) return bad();
            if (text.length() == 150) return full();
            text += (char) c;
            return text.length();
        }

        int clear() {
            int had = text.length();
            text = "";
            return had;
        }

        /** Thrown with the place of the FAULT. */
        static final class Fault extends RuntimeException {
            final int place;

            Fault(int place) {
                super("fault", null, false, false);
                this.place = place;
            }
        }

        static final Pattern TOKEN = Pattern.compile("[a-z]+|[0-9]+|.", Pattern.DOTALL);

        int read() {
            List<String> tokens = new ArrayList<>();
            List<Integer> places = new ArrayList<>();
            Matcher matcher = TOKEN.matcher(text);
            while (matcher.find()) {
                if (!matcher.group().equals(" ")) {
                    tokens.add(matcher.group());
                    places.add(matcher.start());
                }
            }
            tokens.add("");
            places.add(text.length());
            State told = new State();
            int items = 0;
            int k = 0;
            try {
                while (items == 0 || !tokens.get(k).isEmpty()) {
                    String word = tokens.get(k);
                    need(items == 0 == word.equals("people"), places.get(k));
                    switch (word) {
                        case "people":
                            break;
                        case "thing": {
                            need(told.things.size() < 7, places.get(k));
                            int kind = figure(tokens, places, ++k, 0, 5);
                            told.things.add(newThing(kind, figure(tokens, places, ++k, 1, 30)));
                            break;
                        }
                        case "one": {
                            need(told.ones.size() < 7, places.get(k));
                            int kind = figure(tokens, places, ++k, 0, 5);
                            int strength = figure(tokens, places, ++k, 1, 9);
                            told.ones.add(new One(newOne(kind, strength), figure(tokens, places, ++k, 0, 99)));
                            break;
                        }
                        case "own": {
                            One one = told.ones.get(figure(tokens, places, ++k, 0, told.ones.size() - 1));
                            need(one.here && one.owned == -1, places.get(k));
                            int t = figure(tokens, places, ++k, 0, told.things.size() - 1);
                            need(!told.owned(t), places.get(k));
                            one.owned = t;
                            break;
                        }
                        case "leave": {
                            One one = told.ones.get(figure(tokens, places, ++k, 0, told.ones.size() - 1));
                            need(one.owned != -1, places.get(k));
                            one.owned = -1;
                            break;
                        }
                        case "years": {
                            int n = figure(tokens, places, ++k, 1, 99);
                            for (int y = 0; y < n; y++) {
                                if (told.year != 999) told.aYear();
                            }
                            break;
                        }
                        default:
                            throw new Fault(places.get(k));
                    }
                    k++;
                    need(tokens.get(k).equals(";"), places.get(k));
                    k++;
                    items++;
                }
            } catch (Fault fault) {
                return -10 - fault.place;
            }
            now = told;
            return items;
        }

        static void need(boolean good, int place) {
            if (!good) throw new Fault(place);
        }

        static int figure(List<String> tokens, List<Integer> places, int k, int least, int most) {
            need(tokens.get(k).matches("[0-9]{1,2}"), places.get(k));
            int value = Integer.parseInt(tokens.get(k));
            need(in(value, least, most), places.get(k));
            return value;
        }

        void keep() {
            State copy = now.copy();
            copy.past.clear();
            now.past.addLast(copy);
            if (now.past.size() > 8) now.past.removeFirst();
        }

        int owns(int i, int t) {
            if (!one_(i) || !thing_(t)) return bad();
            One one = now.ones.get(i);
            if (!one.here || one.owned != -1 || now.owned(t)) return no();
            keep();
            one.owned = t;
            return now.heldNow(one) ? 1 : 0;
        }

        int leaves(int i) {
            if (!one_(i)) return bad();
            One one = now.ones.get(i);
            if (one.owned == -1) return no();
            keep();
            int t = one.owned;
            one.owned = -1;
            return t;
        }

        int years(int n) {
            if (!in(n, 1, 60)) return bad();
            if (now.year != 999) keep();
            for (int k = 0; k < n; k++) {
                if (now.year != 999) now.aYear();
            }
            return now.here();
        }

        int undo() {
            if (now.past.isEmpty()) return no();
            State before = now.past.removeLast();
            for (int i = 0; i < now.ones.size(); i++) {
                now.ones.set(i, before.ones.get(i).copy());
            }
            now.year = before.year;
            return now.year;
        }

        int of(int i, int what) {
            if (!one_(i) || !in(what, 0, 4)) return bad();
            One one = now.ones.get(i);
            return new int[] {one.sort.kind, one.sort.s, one.age, one.owned, one.here ? 1 : 0}[what];
        }

        int about(int t, int what) {
            if (!thing_(t) || !in(what, 0, 2)) return bad();
            int owner = -1;
            for (int i = 0; i < now.ones.size(); i++) {
                if (now.ones.get(i).owned == t) owner = i;
            }
            return new int[] {now.things.get(t).kind, now.things.get(t).w, owner}[what];
        }

        int lift(int i, int m) {
            One one = now.ones.get(i);
            return one.sort.lifts(one.here ? Math.min(99, one.age + m) : one.age);
        }

        int weight(int t, int m) {
            return now.things.get(t).weighs(now.year + m);
        }

        int lifts(int i, int m) {
            return one_(i) && in(m, 0, 60) ? lift(i, m) : bad();
        }

        int weighs(int t, int m) {
            return thing_(t) && in(m, 0, 60) ? weight(t, m) : bad();
        }

        int held() {
            int bits = 0;
            for (int i = 0; i < now.ones.size(); i++) {
                bits += now.ones.get(i).here && now.heldNow(now.ones.get(i)) ? 1 << i : 0;
            }
            return bits;
        }

        State behind(int m) {
            State then = now.copy();
            for (int k = 0; k < m; k++) {
                then.aYear();
            }
            return then;
        }

        int left(int m) {
            return in(m, 0, 60) ? behind(m).hereBits() : bad();
        }

        int when(int i) {
            if (!one_(i)) return bad();
            if (!now.ones.get(i).here) return -1;
            State then = now.copy();
            for (int m = 1; m <= 60; m++) {
                then.aYear();
                if (!then.ones.get(i).here) return m;
            }
            return -1;
        }

        int length(int i, int t) {
            int m = 0;
            while (m < 60 && weight(t, m) > lift(i, m)) {
                m++;
            }
            return m;
        }

        int lasts(int i, int t) {
            if (!one_(i) || !thing_(t)) return bad();
            return now.ones.get(i).here ? length(i, t) : no();
        }

        int[] way;
        int wayCount;
        int lightest;

        /** All ways, in the document's order; a later one takes the place of none but a smaller one. */
        void allWays(int i, boolean[][] edges, int[] soFar, int used, int count, int weight) {
            if (i == soFar.length) {
                if (count > wayCount) {
                    wayCount = count;
                    way = soFar.clone();
                }
                if (count == now.here() && (lightest == -1 || weight < lightest)) {
                    lightest = weight;
                }
                return;
            }
            soFar[i] = -1;
            allWays(i + 1, edges, soFar, used, count, weight);
            for (int t = 0; t < edges[i].length; t++) {
                if (edges[i][t] && (used >> t & 1) == 0) {
                    soFar[i] = t;
                    allWays(i + 1, edges, soFar, used | 1 << t, count + 1, weight + now.things.get(t).w);
                }
            }
            soFar[i] = -1;
        }

        void findWays(int m) {
            boolean[][] edges = new boolean[now.ones.size()][now.things.size()];
            for (int i = 0; i < edges.length; i++) {
                for (int t = 0; t < edges[i].length; t++) {
                    edges[i][t] = now.ones.get(i).here && length(i, t) >= m;
                }
            }
            wayCount = -1;
            lightest = -1;
            allWays(0, edges, new int[edges.length], 0, 0, 0);
        }

        int match(int m, int i) {
            if (!in(m, 1, 60) || i != -1 && !one_(i)) {
                bad();
                return -10;
            }
            findWays(m);
            return i == -1 ? wayCount : way[i];
        }

        int light(int m) {
            if (!in(m, 1, 60)) return bad();
            findWays(m);
            return lightest;
        }

        int two(int t, int k) {
            if (!thing_(t) || k < -1) {
                bad();
                return -10;
            }
            List<Integer> pairs = new ArrayList<>();
            for (int p = 0; p < 70; p++) {
                int i = p / 10;
                int j = p % 10;
                if (i < j && one_(i) && one_(j) && now.ones.get(i).here && now.ones.get(j).here
                        && Math.max(lift(i, 0), lift(j, 0)) < weight(t, 0)
                        && lift(i, 0) + lift(j, 0) >= weight(t, 0)) {
                    pairs.add(p);
                }
            }
            return k == -1 ? pairs.size() : k < pairs.size() ? pairs.get(k) : -5;
        }

        int seen(int i, int a, int x, int lifted) {
            if (!one_(i) || !in(a, 0, 99) || !in(x, 0, 60) || !in(lifted, 0, 1)) return bad();
            if (now.seen.size() == 5) return full();
            now.seen.add(new int[] {i, a, x, lifted});
            return now.seen.size();
        }

        List<Integer> strengths(int i) {
            List<Integer> fit = new ArrayList<>();
            for (int s = 1; s < 10; s++) {
                Plain as = newOne(now.ones.get(i).sort.kind, s);
                if (now.seen.stream().allMatch(r -> r[0] != i || (as.lifts(r[1]) >= r[2]) == (r[3] == 1))) {
                    fit.add(s);
                }
            }
            return fit;
        }

        int strong(int i, int what) {
            if (!one_(i) || !in(what, 0, 2)) return bad();
            List<Integer> fit = strengths(i);
            if (what == 0) return fit.size();
            if (fit.isEmpty()) return -1;
            return what == 1 ? fit.get(0) : fit.get(fit.size() - 1);
        }

        int tell(int i) {
            if (!one_(i)) return bad();
            List<Integer> fit = strengths(i);
            int best = -1;
            long least = 100;
            for (int code = 0; code < 1000 && !fit.isEmpty(); code++) {
                int a = code / 100 * 10;
                int x = code % 100;
                if (x <= 60) {
                    long yes = fit.stream().filter(s -> newOne(now.ones.get(i).sort.kind, s).lifts(a) >= x).count();
                    long worse = Math.max(yes, fit.size() - yes);
                    if (worse < least) {
                        least = worse;
                        best = code;
                    }
                }
            }
            return best;
        }

        int note(int t, int w, int y, int x) {
            if (!thing_(t) || !in(w, 1, 30) || !in(y, 0, 99) || !in(x, 0, 99)) return bad();
            if (now.notes.size() == 6) return full();
            now.notes.add(new int[] {t, w, y, x});
            return now.notes.size();
        }

        int mark(int i, int s, int a, int x) {
            if (!one_(i) || !in(s, 1, 9) || !in(a, 0, 99) || !in(x, 0, 99)) return bad();
            if (now.marks.size() == 6) return full();
            now.marks.add(new int[] {i, s, a, x});
            return now.marks.size();
        }

        int forget(int what) {
            if (!in(what, 0, 2)) return bad();
            List<int[]> rows = what == 0 ? now.seen : what == 1 ? now.notes : now.marks;
            int were = rows.size();
            rows.clear();
            return were;
        }

        int thingBits(int t) {
            int bits = 63;
            for (int[] r : now.notes) {
                for (int k = 0; k < 6; k++) {
                    if (r[0] == t && newThing(k, r[1]).weighs(r[2]) != r[3]) bits &= ~(1 << k);
                }
            }
            return bits;
        }

        int oneBits(int i) {
            int bits = 63;
            for (int[] r : now.marks) {
                for (int k = 0; k < 6; k++) {
                    if (r[0] == i && newOne(k, r[1]).lifts(r[2]) != r[3]) bits &= ~(1 << k);
                }
            }
            return bits;
        }

        int is(int t) {
            return thing_(t) ? thingBits(t) : bad();
        }

        int kinds(int i) {
            return one_(i) ? oneBits(i) : bad();
        }

        static int largest(int[] values, int size) {
            int most = 0;
            Set<Integer> known = new HashSet<>();
            for (int k = 0; k < size; k++) {
                if (known.add(values[k])) {
                    int v = values[k];
                    most = Math.max(most, (int) Arrays.stream(values, 0, size).filter(u -> u == v).count());
                }
            }
            return most;
        }

        int look(int t) {
            if (!thing_(t)) return bad();
            int best = -1;
            int least = 99;
            for (int y = 0; y <= 60; y++) {
                int[] values = new int[6];
                int size = 0;
                for (int k = 0; k < 6; k++) {
                    if ((thingBits(t) >> k & 1) == 1) values[size++] = newThing(k, now.things.get(t).w).weighs(y);
                }
                if (size > 0 && largest(values, size) < least) {
                    least = largest(values, size);
                    best = y;
                }
            }
            return best;
        }

        int ask(int i) {
            if (!one_(i)) return bad();
            int best = -1;
            int least = 99;
            for (int a = 0; a <= 99; a++) {
                int[] values = new int[6];
                int size = 0;
                for (int k = 0; k < 6; k++) {
                    if ((oneBits(i) >> k & 1) == 1) values[size++] = newOne(k, now.ones.get(i).sort.s).lifts(a);
                }
                if (size > 0 && largest(values, size) < least) {
                    least = largest(values, size);
                    best = a;
                }
            }
            return best;
        }

        int tries(int a, int b, int t) {
            if (!one_(a) || !one_(b) || a == b || !thing_(t)) return bad();
            int w = weight(t, 0);
            boolean aCan = lift(a, 0) >= w;
            boolean bCan = lift(b, 0) >= w;
            int both = lift(a, 0) + lift(b, 0) >= w ? 3 : -3;
            int[] forA = {0, aCan ? 5 : -2, bCan ? 0 : 1, both};
            int[] forB = {0, aCan ? 0 : 1, bCan ? 5 : -2, both};
            int bits = 0;
            for (int p = 0; p < 4; p++) {
                if (forA[p] >= forA[p ^ 1] && forB[p] >= forB[p ^ 2]) bits |= 1 << p;
            }
            return bits;
        }

        int shout(int i, int n, int c) {
            if (!one_(i) || !in(n, 0, 6) || !in(c, 0, 10)) return bad();
            One one = now.ones.get(i);
            if (!one.here) return no();
            BigInteger good = BigInteger.ZERO;
            for (int shouts = 0; shouts < 1 << n; shouts++) {
                BigInteger chance = BigInteger.ONE;
                boolean stays = true;
                for (int k = 0; k < n; k++) {
                    boolean now5 = (shouts >> k & 1) == 1;
                    chance = chance.multiply(BigInteger.valueOf(now5 ? c : 10 - c));
                    stays &= one.owned != -1 && weight(one.owned, k) > lift(i, k) + (now5 ? 5 : 0);
                }
                if (stays) good = good.add(chance);
            }
            BigInteger all = BigInteger.TEN.pow(n);
            BigInteger common = good.gcd(all);
            above = good.divide(common);
            below = all.divide(common);
            return 1;
        }

        int centuries(int seed, int n) {
            if (!in(seed, 0, 999999) || !in(n, 0, 60)) return bad();
            State then = now.copy();
            BigInteger x = BigInteger.valueOf(seed);
            for (int k = 0; k < n; k++) {
                x = x.multiply(BigInteger.valueOf(1103515245)).add(BigInteger.valueOf(12345))
                        .mod(BigInteger.ONE.shiftLeft(31));
                int i = x.shiftRight(16).mod(BigInteger.valueOf(7)).intValue();
                int t = x.shiftRight(20).mod(BigInteger.valueOf(7)).intValue();
                if (one_(i) && thing_(t) && then.ones.get(i).here && then.ones.get(i).owned == -1 && !then.owned(t)) {
                    then.ones.get(i).owned = t;
                }
                then.aYear();
            }
            return then.here();
        }

        long part(int what) {
            return what == 0 ? above.longValue() : what == 1 ? below.longValue() : bad();
        }

        int image(int i) {
            if (!in(i, 0, 1)) return bad();
            images[i] = now.copy();
            return 1;
        }

        int from(int i) {
            if (!in(i, 0, 1)) return bad();
            if (images[i] == null) return no();
            now = images[i].copy();
            return 1;
        }

        int status(int what) {
            if (!in(what, 0, 2)) {
                bad();
                return -1;
            }
            return refused[what];
        }

        int[] counts() {
            return new int[] {now.ones.size(), now.here(), now.things.size(),
                (int) now.ones.stream().filter(one -> one.owned != -1).count(), now.year, now.seen.size(),
                now.notes.size(), now.marks.size(), now.past.size(), text.length()};
        }

        int count(int what) {
            return in(what, 0, 9) ? counts()[what] : bad();
        }

        long digest() {
            List<Long> all = new ArrayList<>();
            for (int v : counts()) all.add((long) v);
            for (Stone thing : now.things) {
                all.add((long) thing.kind);
                all.add((long) thing.w);
            }
            for (int i = 0; i < now.ones.size(); i++) {
                for (int what = 0; what < 5; what++) all.add((long) of(i, what));
            }
            for (List<int[]> rows : List.of(now.seen, now.notes, now.marks)) {
                for (int[] row : rows) {
                    for (int v : row) all.add((long) v);
                }
            }
            all.add(above.longValue());
            all.add(below.longValue());
            long h = 1759;
            for (long v : all) h = 31 * h + v;
            return h;
        }
    }
}
