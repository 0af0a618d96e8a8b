/** THE TEXT: its length, its TOKENS, its ITEMS, and where its FAULT lies. */
public final class BoundTextTest extends Checks {
    private static final String SEVEN_THINGS =
            "people;thing 0 1;thing 1 2;thing 2 3;thing 3 4;thing 4 5;thing 5 6;thing 0 7;";
    private static final String SEVEN_ONES =
            "people;one 0 1 1;one 1 2 2;one 2 3 3;one 3 4 4;one 4 5 5;one 5 6 6;one 0 7 7;";

    public static void main(String[] args) {
        bytesOfTheText();
        clearing();
        endingTooEarly();
        fewestAndMostItems();
        peopleFirst();
        peopleOnce();
        wordsThatAreNone();
        whatIsDueInstead();
        eighthThing();
        eighthOne();
        figures();
        kindsAndWeights();
        kindsStrengthsAges();
        yearsInTheText();
        yearsToTheLast();
        notThereYet();
        lostOnes();
        whoOwnsSomething();
        whoOwnsNothing();
        thingsThatAreOwned();
        bytesThatBeginNone();
        blanks();
        placeOfAll();
        end("the text at its bounds");
    }

    private static StoneHeld with(String text) {
        StoneHeld x = some();
        tell(x, text);
        return x;
    }

    /** The place is that of the sign ^ in the text, which is not part of it. */
    private static void fault(String marked) {
        int place = marked.indexOf('^');
        String text = marked.substring(0, place) + marked.substring(place + 1);
        holds("too long: " + text, text.length() <= 150);
        refused(() -> with(text), "read of '" + text + "'", x -> x.read(), -10 - place, UNCOUNTED);
    }

    /** It is read, and STATUS counts nothing. */
    private static StoneHeld good(String text, int items) {
        holds("too long: " + text, text.length() <= 150);
        StoneHeld x = with(text);
        due("read of '" + text + "'", x.read(), items);
        counted(x, "read of '" + text + "'", 1, 1, 1);
        return x;
    }

    private static void bytesOfTheText() {
        says("A byte (0 .. 127) comes behind THE TEXT: how many it has. BAD; FULL.");
        StoneHeld x = new StoneHeld();
        due("type(0)", x.type(0), 1);
        due("type(127)", x.type(127), 2);
        due("type(-1)", x.type(-1), BAD);
        due("type(128)", x.type(128), BAD);
        due("type(' ' and 256)", x.type(256 + ' '), BAD);
        due("how many", x.count(9), 2);
        says("a TEXT (150 bytes at most)");
        for (int k = 3; k <= 150; k++) {
            due("type, the " + k + "th", x.type(k % 128), k);
        }
        due("the 151st", x.type(0), FULL);
        due("the 151st", x.type(127), FULL);
        due("BAD comes first", x.type(128), BAD);
        due("BAD comes first", x.type(-1), BAD);
        due("how many", x.count(9), 150);
        counted(x, "type", 5, 0, 2);
        Maker full = () -> with(textOf("people;one 0 1 0;thing 0 5;own 0 0", 150));
        due("a full one is read", full.make().read(), 4);
        refused(full, "type(59) to a full one", y -> y.type(';'), FULL, AS_FULL);
        refused(full, "type(128) to a full one", y -> y.type(128), BAD, AS_BAD);
        refused(() -> with("people"), "type(128)", y -> y.type(128), BAD, AS_BAD);
    }

    private static void clearing() {
        says("THE TEXT is empty: how many it had.");
        StoneHeld x = new StoneHeld();
        due("clear() of none", x.clear(), 0);
        x.type('p');
        due("clear() of one", x.clear(), 1);
        due("clear() again", x.clear(), 0);
        tell(x, textOf("people", 150));
        due("the 151st", x.type(';'), FULL);
        due("clear() of a full one", x.clear(), 150);
        due("how many", x.count(9), 0);
        due("an empty one", x.read(), -10);
        due("type() goes on from nothing", x.type('p'), 1);
        due("what was cleared is gone", x.read(), -10);
        tell(x, "people;");
        due("read", x.read(), 1);
        counted(x, "clear", 0, 0, 1);
    }

    private static void endingTooEarly() {
        says("the TEXT's length, if it ends too early (an empty one, too)");
        fault("^");
        fault(" ^");
        fault("people^");
        fault("people ^");
        fault("people;thing^");
        fault("people;thing ^");
        fault("people;thing 0^");
        fault("people;thing 0 ^");
        fault("people;thing 0 1^");
        fault("people;thing 0 1 ^");
        fault("people;one^");
        fault("people;one 0^");
        fault("people;one 0 1^");
        fault("people;one 0 1 0^");
        fault("people;thing 0 5;one 0 1 0;own^");
        fault("people;thing 0 5;one 0 1 0;own 0^");
        fault("people;thing 0 5;one 0 1 0;own 0 0^");
        fault("people;thing 0 5;one 0 1 0;own 0 0;leave^");
        fault("people;thing 0 5;one 0 1 0;own 0 0;leave 0^");
        fault("people;years^");
        fault("people;years 1^");
        fault("people;years 99^");
        fault(" ".repeat(150) + "^");
        fault("people" + " ".repeat(144) + "^");
        fault("people;" + " ".repeat(142) + "^-");
        fault("people;" + " ".repeat(142) + "^;");
        fault("people;" + " ".repeat(142) + "^x");
        fault("people;" + " ".repeat(142) + "^1");
    }

    private static void fewestAndMostItems() {
        says("THE PEOPLE are read: how many ITEMS.");
        good("people;", 1);
        good("people;years 1;", 2);
        good("people;" + "years 1;".repeat(17), 18);
        good("people;" + "years 1;".repeat(17) + "       ", 18);
        StoneHeld x = good("people;" + "years1;".repeat(20), 21);
        due("the year", x.count(4), 20);
    }

    private static void peopleFirst() {
        says("people (once, first of all) .. anything ahead of it");
        fault("^thing 0 1;people;");
        fault("^one 0 1 0;people;");
        fault("^own 0 0;");
        fault("^leave 0;");
        fault("^years 1;people;");
        fault("^;people;");
        fault("^1;people;");
        fault("^0people;");
        fault("  ^1 people;");
        fault("^-people;");
        fault("^123 people;");
        fault("^a people;");
    }

    private static void peopleOnce() {
        says("people again");
        fault("people;^people;");
        fault("people;thing 0 1; ^people;");
        fault("people ^people;");
        fault("people;years 1 ^people;");
    }

    private static void wordsThatAreNone() {
        says("a word that is none");
        for (String word : new String[] {"a", "z", "peopl", "peoples", "eople", "peoplf", "qeople"}) {
            fault("^" + word + ";");
        }
        String[] words = {"a", "z", "thin", "things", "hing", "thinh", "uhing", "on", "ones", "onf", "pne", "ne",
            "ow", "owns", "owm", "nwn", "leav", "leaves", "leavf", "meave", "year", "yearss", "yeart", "zears",
            "when", "held", "read", "undo", "peopleone", "thingone"};
        for (String word : words) {
            fault("people;one 0 1 0;thing 0 3;^" + word + " 0 1;");
        }
        fault("people;^Thing 0 1;");
        fault("people;o^Ne 0 1 0;".replace("o^Ne", "^oNe"));
        fault("^People;");
        fault("^peoplE;");
        fault("people;^thi");
    }

    private static void whatIsDueInstead() {
        says("the first TOKEN that can not stand there");
        fault("people^1;");
        fault("people ^1;");
        fault("people;^1;");
        fault("people;^;");
        fault("people;thing ^;");
        fault("people;thing 0 ^;");
        fault("people;thing 0 1 ^2;");
        fault("people;thing 0 1 ^thing 0 1;");
        fault("people;thing ^one 0 1 0;");
        fault("people;one ^;");
        fault("people;one 0 ^;");
        fault("people;one 0 1 ^;");
        fault("people;one 0 1 0 ^0;");
        fault("people;one 0 1 ^one;");
        fault("people;thing 0 5;one 0 1 0;own ^;");
        fault("people;thing 0 5;one 0 1 0;own 0 ^;");
        fault("people;thing 0 5;one 0 1 0;own 0 0 ^0;");
        fault("people;thing 0 5;one 0 1 0;own ^own 0 0;");
        fault("people;thing 0 5;one 0 1 0;own 0 0;leave ^;");
        fault("people;thing 0 5;one 0 1 0;own 0 0;leave 0 ^0;");
        fault("people;years ^;");
        fault("people;years 1 ^1;");
        fault("people;years ^years 1;");
        fault("people;thing ^6 31 x;");
        fault("people;thing 0 ^31 x;");
        fault("people;thing 0 1 ^x;-");
    }

    private static void eighthThing() {
        says("an 8th thing .. at its word");
        StoneHeld x = good(SEVEN_THINGS, 8);
        due("seven", x.count(2), 7);
        due("the last kind", x.about(6, 0), 0);
        due("the last weight", x.about(6, 1), 7);
        due("one more", x.thing(0, 1), FULL);
        fault(SEVEN_THINGS + "^thing 0 1;");
        fault(SEVEN_THINGS + "^thing");
        fault(SEVEN_THINGS + "^thing 9 99;");
        fault(SEVEN_THINGS + "  ^thing;");
        good(SEVEN_THINGS + "one 0 1 0;own 0 6;", 10);
    }

    private static void eighthOne() {
        says("an 8th one at its word");
        StoneHeld x = good(SEVEN_ONES, 8);
        due("seven", x.count(0), 7);
        due("the last strength", x.of(6, 1), 7);
        due("one more", x.one(0, 1, 0), FULL);
        fault(SEVEN_ONES + "^one 0 1 0;");
        fault(SEVEN_ONES + "^one");
        fault(SEVEN_ONES + "^one 9 99 100;");
        fault(SEVEN_ONES + "years 1;^one 0 1 0;");
        good(SEVEN_ONES + "thing 0 1;own 6 0;", 10);
    }

    private static void figures() {
        says("figures (1 or 2 are one number) .. a run of three figures or more (at its first one)");
        due("two figures", good("people;one 0 1 10;", 2).of(0, 2), 10);
        due("a nought ahead", good("people;one 00 01 09;", 2).of(0, 2), 9);
        due("99", good("people;one 05 09 99;", 2).of(0, 2), 99);
        due("90", good("people;one 0 1 90;", 2).of(0, 2), 90);
        fault("people;one 0 1 ^000;");
        fault("people;one 0 1 ^001;");
        fault("people;one 0 1 ^100;");
        fault("people;one 0 ^001 0;");
        fault("people;one ^000 1 0;");
        fault("people;one ^0100;");
        fault("people;years ^010;");
        fault("people;years ^001");
        fault("people;years ^" + "0".repeat(137));
        fault("people;thing 0 ^0000000001;");
        fault("people;thing 0 5;one 0 1 0;own ^000 0;");
        fault("people;thing 0 5;one 0 1 0;own 0 ^000;");
        fault("people;thing 0 5;one 0 1 0;own 0 0;leave ^000;");
        fault("people;thing 0 1 ^111;");
    }

    private static void kindsAndWeights() {
        says("thing KIND WEIGHT .. a number not as told");
        due("the least", good("people;thing 0 1;", 2).about(0, 1), 1);
        due("the greatest", good("people;thing 5 30;", 2).about(0, 0), 5);
        due("the greatest", good("people;thing 5 30;", 2).about(0, 1), 30);
        fault("people;thing ^6 1;");
        fault("people;thing ^99 1;");
        fault("people;thing ^10 1;");
        fault("people;thing 0 ^0;");
        fault("people;thing 0 ^00;");
        fault("people;thing 0 ^31;");
        fault("people;thing 5 ^99;");
    }

    private static void kindsStrengthsAges() {
        says("one KIND STRENGTH AGE .. a number not as told");
        StoneHeld x = good("people;one 0 1 0;one 5 9 99;", 3);
        int[][] due = {{0, 1, 0}, {5, 9, 99}};
        for (int i = 0; i < 2; i++) {
            for (int what = 0; what < 3; what++) {
                due("of(" + i + ", " + what + ")", x.of(i, what), due[i][what]);
            }
            due("he owns nothing", x.of(i, 3), NONE);
            due("he is here", x.of(i, 4), 1);
        }
        fault("people;one ^6 1 0;");
        fault("people;one ^99 1 0;");
        fault("people;one 0 ^0 0;");
        fault("people;one 0 ^10 0;");
        fault("people;one 0 ^99 0;");
        fault("people;one 0 1 ^100;");
    }

    private static void yearsInTheText() {
        says("years n (1 .. 99)");
        due("1", good("people;years 1;", 2).count(4), 1);
        due("60", good("people;years 60;", 2).count(4), 60);
        due("61", good("people;years 61;", 2).count(4), 61);
        due("99", good("people;years 99;", 2).count(4), 99);
        fault("people;years ^0;");
        fault("people;years ^00;");
        fault("people;years ^100;");
        StoneHeld x = good("people;thing 0 3;thing 0 30;one 0 1 0;one 0 1 0;one 0 1 0;own 0 0;own 1 1;years 99;", 9);
        due("those here", x.count(1), 1);
        due("owned", x.count(3), 1);
        due("lost at", x.of(0, 2), 3);
        due("99 at most", x.of(1, 2), 99);
        due("lost at once", x.of(2, 2), 0);
        due("nobody's", x.about(0, 2), NONE);
        x.years(1);
        due("99 at most", x.of(1, 2), 99);
    }

    private static void yearsToTheLast() {
        says("YEARS have numbers, 0 at first (999 at most).");
        String tenTimes = "people;" + "years 99;".repeat(10);
        due("990", good(tenTimes, 11).count(4), 990);
        due("998", good(tenTimes + "years 8;", 12).count(4), 998);
        due("999", good(tenTimes + "years 9;", 12).count(4), 999);
        due("no more by one", good(tenTimes + "years 10;", 12).count(4), 999);
        due("no more", good(tenTimes + "years 99;years 99;", 13).count(4), 999);
        StoneHeld x = good(tenTimes + "years 9;one 0 1 0;years 9;", 14);
        due("at 999 none goes by", x.count(4), 999);
        due("and nobody is lost", x.count(1), 1);
        due("nor older", x.of(0, 2), 0);
        StoneHeld y = good(tenTimes + "thing 0 30;one 0 1 0;own 0 0;years 99;", 15);
        due("nine go by", y.of(0, 2), 9);
        StoneHeld z = good(tenTimes + "years 8;one 0 1 0;years 1;", 14);
        due("the last goes by", z.count(1), 0);
    }

    private static void notThereYet() {
        says("also one, a THING that is not there yet");
        fault("people;thing 0 5;own ^0 0;");
        fault("people;one 0 1 0;own 0 ^0;");
        fault("people;thing 0 5;one 0 1 0;own ^1 0;");
        fault("people;thing 0 5;one 0 1 0;own ^1 9;");
        fault("people;thing 0 5;one 0 1 0;own 0 ^1;");
        fault("people;thing 0 5;one 0 1 0;own 0 ^99;");
        fault("people;thing 0 5;one 0 1 0;own ^99 0;");
        fault("people;thing 0 5;own ^0 0;one 0 1 0;");
        fault("people;leave ^0;");
        fault("people;one 0 1 0;leave ^1;");
        fault(SEVEN_ONES + "thing 0 1;own ^7 0;");
        fault(SEVEN_THINGS + "one 0 1 0;own 0 ^7;");
        fault(SEVEN_ONES + "leave ^7;");
        StoneHeld x = good("people;thing 0 5;one 0 1 0;thing 0 6;one 0 1 0;own 1 1;own 0 0;", 7);
        due("0 owns", x.of(0, 3), 0);
        due("1 owns", x.of(1, 3), 1);
    }

    private static void lostOnes() {
        says("one who is LOST .. (own)");
        fault("people;thing 0 5;one 0 1 0;years 1;own ^0 0;");
        fault("people;thing 0 5;one 0 1 0;years 1;own ^0 9;");
        fault("people;thing 0 2;one 0 1 0;own 0 0;years 1;own ^0 0;");
        fault("people;thing 0 5;one 0 1 0;years 1;leave ^0;");
        fault("people;thing 0 2;one 0 1 0;own 0 0;years 1;leave ^0;");
        StoneHeld x = good("people;thing 0 2;one 0 1 0;own 0 0;years 1;one 0 1 0;own 1 0;", 7);
        due("what he owned is another's", x.about(0, 2), 1);
        StoneHeld y = good("people;thing 0 3;one 0 1 0;own 0 0;years 3;leave 0;own 0 0;", 7);
        due("he is here yet", y.of(0, 4), 1);
        fault("people;thing 0 3;one 0 1 0;own 0 0;years 4;leave ^0;own 0 0;");
    }

    private static void whoOwnsSomething() {
        says("one who .. OWNS something (own)");
        fault("people;thing 0 5;thing 0 5;one 0 1 0;own 0 0;own ^0 1;");
        fault("people;thing 0 5;one 0 1 0;own 0 0;own ^0 0;");
        fault("people;thing 0 5;one 0 1 0;own 0 0;own ^0 9;");
        StoneHeld x = good("people;thing 0 5;thing 0 5;one 0 1 0;own 0 0;leave 0;own 0 1;", 7);
        due("another", x.of(0, 3), 1);
    }

    private static void whoOwnsNothing() {
        says("who OWNS nothing (leave)");
        fault("people;thing 0 5;one 0 1 0;leave ^0;");
        fault("people;thing 0 5;one 0 1 0;own 0 0;leave 0;leave ^0;");
        fault("people;thing 0 5;one 0 1 0;one 0 1 0;own 0 0;leave ^1;");
        due("none is owned", good("people;thing 0 5;one 0 1 0;own 0 0;leave 0;", 5).count(3), 0);
    }

    private static void thingsThatAreOwned() {
        says("a THING that is owned");
        fault("people;thing 0 5;one 0 1 0;one 0 1 0;own 0 0;own 1 ^0;");
        fault("people;thing 0 5;thing 0 5;one 0 1 0;one 0 1 0;own 1 1;own 0 ^1;");
        StoneHeld x = good("people;thing 0 5;one 0 1 0;one 0 1 0;own 0 0;leave 0;own 1 0;", 7);
        due("it is another's", x.about(0, 2), 1);
    }

    private static void bytesThatBeginNone() {
        says("a byte that begins none, too");
        for (int c = 0; c < 128; c++) {
            if (c != ' ' && c != ';' && !(c >= '0' && c <= '9') && !(c >= 'a' && c <= 'z')) {
                fault("^" + (char) c + "people;");
                fault("people^" + (char) c + ";");
                fault("people;years^" + (char) c + "1;");
                fault("people;years 1^" + (char) c + ";");
                fault("people;^" + (char) c);
                fault("people;years 1;  ^" + (char) c);
            }
        }
        fault("people;thing ^-1 1;");
        fault("people;thing 0 ^-1;");
        fault("people;thing 0 1^.5;");
    }

    private static void blanks() {
        says("blanks (32) between");
        good("   people   ;   years   1   ;   ", 2);
        good("people ; thing 0 1 ; one 0 1 0 ; own 0 0 ; leave 0 ; years 1 ;", 6);
        fault("^peo ple;");
        fault("people;^th ing 0 1;");
        fault("people;thing 0 ^0 1;");
        fault("people;years 1 ^0;");
        StoneHeld x = good("people;one 0 1 1 ;thing 0   12;", 3);
        due("one figure", x.of(0, 2), 1);
        due("two figures", x.about(0, 1), 12);
    }

    private static void placeOfAll() {
        says("PEOPLE that are read take the place of all but IMAGES, THE TEXT, THE FRACTION, STATUS");
        StoneHeld x = some();
        long above = x.part(0);
        long below = x.part(1);
        tell(x, "people;");
        due("read", x.read(), 1);
        due("nobody; the text and the fraction stay", x.digest(), mix(0, 0, 0, 0, 0, 0, 0, 0, 0, 7, above, below));
        counted(x, "the status stays", 1, 1, 1);
        says("(SEEN ones, NOTES, MARKS none; nothing to undo)");
        due("undo()", x.undo(), NO);
        StoneHeld y = some();
        due("some may be undone", y.count(8), 4);
        tell(y, "people;thing 0 5;one 0 1 0;own 0 0;years 1;leave 0;own 0 0;");
        due("read", y.read(), 7);
        for (int what = 5; what <= 8; what++) {
            due("count(" + what + ")", y.count(what), 0);
        }
        due("undo()", y.undo(), NO);
        due("the images stay", y.from(0), 1);
        due("six were there", y.count(0), 6);
        due("the other one", y.from(1), 1);
        due("three were there", y.count(0), 3);
        due("two may be undone", y.count(8), 2);
        StoneHeld z = most();
        due("a full one", z.read(), 5);
        due("is gone", z.count(0), 1);
        due("and may be read again", z.read(), 5);
        due("alike", z.count(0), 1);
        due("the year", z.count(4), 1);
    }
}
