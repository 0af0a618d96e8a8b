/**
 * What the tests share. A test is a class under this one, so that it calls these by plain names.
 */
abstract class Checks {
    static final int NONE = -1;
    static final int BAD = -2;
    static final int NO = -3;
    static final int FULL = -4;
    static final int LEAST = Integer.MIN_VALUE;
    static final int GREATEST = Integer.MAX_VALUE;

    /** By which of its numbers STATUS counts a refusal; a fault of THE TEXT or a -5 by none. */
    static final int AS_BAD = 0;
    static final int AS_NO = 1;
    static final int AS_FULL = 2;
    static final int UNCOUNTED = -1;

    private static final int MOST_SHOWN = 40;
    private static final int MOST_UNDONE = 8;

    private static String sentence = "";
    private static int wrong = 0;

    interface Maker {
        StoneHeld make();
    }

    interface Call {
        long ask(StoneHeld x);
    }

    /** The document's words that the checks from here on are about. */
    static void says(String words) {
        sentence = words;
    }

    static void due(String call, long got, long want) {
        if (got != want) {
            complain(call + " answered " + got + ", due is " + want);
        }
    }

    static void holds(String what, boolean good) {
        if (!good) {
            complain(what);
        }
    }

    private static void complain(String what) {
        wrong++;
        if (wrong <= MOST_SHOWN) {
            System.out.println((sentence.isEmpty() ? "" : "'" + sentence + "': ") + what);
        }
    }

    static void end(String name) {
        System.out.println(name + (wrong == 0 ? ": all is as due" : ": " + wrong + " answers are not as due"));
        if (wrong != 0) {
            System.exit(1);
        }
    }

    static void tell(StoneHeld x, String text) {
        x.clear();
        for (int k = 0; k < text.length(); k++) {
            x.type(text.charAt(k));
        }
    }

    static StoneHeld told(String text) {
        StoneHeld x = new StoneHeld();
        tell(x, text);
        holds("read of '" + text + "'", x.read() > 0);
        return x;
    }

    /** Nobody, in that YEAR; the TEXT is empty, and nothing may be undone. */
    static StoneHeld inYear(int year) {
        StringBuilder text = new StringBuilder("people;");
        for (int rest = year; rest > 0; rest -= 99) {
            text.append("years ").append(Math.min(99, rest)).append(';');
        }
        StoneHeld x = told(text.toString());
        x.clear();
        due("the year", x.count(4), year);
        return x;
    }

    static long mix(long... values) {
        long h = 1759;
        for (long v : values) {
            h = 31 * h + v;
        }
        return h;
    }

    static void counted(StoneHeld x, String what, int bad, int no, int full) {
        due(what + ": status(0)", x.status(0), bad);
        due(what + ": status(1)", x.status(1), no);
        due(what + ": status(2)", x.status(2), full);
    }

    /**
     * The call is refused: on one of two like objects it is made, and behind it they are alike in
     * all that can be seen, but for STATUS, that counts it once.
     */
    static void refused(Maker maker, String call, Call asked, long answer, int reason) {
        StoneHeld with = maker.make();
        StoneHeld without = maker.make();
        due(call, asked.ask(with), answer);
        for (int k = 0; k < 3; k++) {
            due(call + ", then status(" + k + ")", with.status(k), without.status(k) + (k == reason ? 1 : 0));
        }
        holds(call + " changed more than STATUS", lookThrough(with).equals(lookThrough(without)));
    }

    /** The call answers that, and nothing is changed by it, not even STATUS. */
    static void unchanging(Maker maker, String call, Call asked, long answer) {
        refused(maker, call, asked, answer, UNCOUNTED);
    }

    /** All that can be seen of an object but STATUS; what it holds is used up by this. */
    static String lookThrough(StoneHeld x) {
        StringBuilder seen = new StringBuilder();
        lookBack(x, seen);
        for (int image = 0; image < 2; image++) {
            seen.append(x.from(image)).append(' ');
            lookBack(x, seen);
        }
        seen.append(x.read()).append(' ');
        lookBack(x, seen);
        return seen.toString();
    }

    private static void lookBack(StoneHeld x, StringBuilder seen) {
        seen.append(x.digest()).append(' ');
        for (int k = 0; k <= MOST_UNDONE; k++) {
            seen.append(x.undo()).append(' ').append(x.digest()).append(' ');
        }
    }

    /**
     * Three THINGS and three PEOPLE: 0 owns thing 0, 1 is HERE and owns nothing, 2 is LOST; with
     * something of everything else: a TEXT, a FRACTION, IMAGES, refusals, and what may be undone.
     */
    static StoneHeld some() {
        StoneHeld x = new StoneHeld();
        tell(x, "people;thing 0 9;one 0 1 0;own 0 0;years 2;");
        x.undo();
        x.thing(9, 9);
        for (int k = 0; k <= 5; k++) {
            x.thing(0, 30);
            x.one(0, 1, 0);
            x.seen(0, 0, 0, 0);
        }
        x.image(0);
        x.people();
        x.thing(0, 30);
        x.thing(4, 6);
        x.thing(0, 16);
        x.one(0, 1, 0);
        x.one(0, 2, 40);
        x.one(3, 9, 5);
        x.seen(0, 5, 6, 1);
        x.seen(1, 6, 7, 0);
        x.note(2, 3, 4, 5);
        x.mark(2, 3, 4, 5);
        x.mark(1, 2, 3, 4);
        x.mark(0, 1, 2, 3);
        x.owns(0, 0);
        x.owns(1, 2);
        x.image(1);
        x.shout(1, 1, 3);
        x.years(1);
        x.leaves(1);
        return x;
    }

    /** As many of everything as there may be; every one of the seven owns a thing. */
    static StoneHeld most() {
        StoneHeld x = new StoneHeld();
        tell(x, textOf("people;thing 0 30;one 0 1 0;own 0 0;years 1", 150));
        for (int k = 0; k < 7; k++) {
            x.thing(k % 6, 30);
            x.one(k % 6, 1, 10 * k);
        }
        for (int k = 0; k < 6; k++) {
            x.seen(k, 10 * k, 10 + k, k % 2);
            x.note(k, 30, k, 30);
            x.mark(k, 9, k, 20 + k);
        }
        x.image(0);
        for (int k = 0; k < 7; k++) {
            x.owns(k, 6 - k);
        }
        x.leaves(3);
        x.image(1);
        x.owns(3, 3);
        return x;
    }

    /** That many bytes: the text, blanks, and a last ; behind them. */
    static String textOf(String text, int bytes) {
        StringBuilder all = new StringBuilder(text);
        while (all.length() < bytes - 1) {
            all.append(' ');
        }
        return all.append(';').toString();
    }
}
