/**
 * Each promise of the document by itself: ordinary calls, the edges that it names, wrong inputs.
 * The answers due were worked out from the document by hand.
 */
public final class PromisesTest extends Checks {
    public static void main(String[] args) {
        newObject();
        people();
        thing();
        one();
        type();
        clear();
        read();
        readFaults();
        owns();
        leaves();
        years();
        yearsAtTheEnd();
        undo();
        of();
        about();
        lifts();
        weighs();
        held();
        left();
        when();
        lasts();
        match();
        light();
        two();
        seen();
        strong();
        tell();
        note();
        mark();
        forget();
        is();
        look();
        kinds();
        ask();
        tries();
        shout();
        centuries();
        part();
        image();
        from();
        status();
        count();
        digest();
        constants();
        beyond();
        end("promises");
    }

    private static void newObject() {
        StoneHeld x = new StoneHeld();
        for (int what = 0; what <= 9; what++) {
            due("1 count(" + what + ")", x.count(what), 0);
        }
        due("1 part(0)", x.part(0), 0);
        due("1 part(1)", x.part(1), 1);
        due("1 undo()", x.undo(), NO);
        due("1 from(0)", x.from(0), NO);
        due("1 from(1)", x.from(1), NO);
        due("1 read()", x.read(), -10);
        counted(x, "1", 0, 3, 0);
    }

    private static void people() {
        StoneHeld x = told("people;thing 0 9;one 0 1 0;one 1 2 3;own 0 0;years 2;");
        x.one(0, 1, 0);
        x.owns(2, 0);
        x.seen(0, 1, 1, 1);
        x.note(0, 1, 1, 1);
        x.mark(0, 1, 1, 1);
        x.image(1);
        x.shout(0, 1, 1);
        x.thing(6, 1);
        due("2 people()", x.people(), 3);
        due("2 digest()", x.digest(), mix(0, 0, 0, 0, 0, 0, 0, 0, 0, x.count(9), x.part(0), x.part(1)));
        due("2 the text stays", x.count(9), 53);
        due("2 the fraction stays", x.part(0), 1);
        counted(x, "2", 1, 1, 0);
        due("2 undo()", x.undo(), NO);
        due("2 people() again", x.people(), 0);
        due("2 the image stays", x.from(1), 1);
        due("2 people of the image", x.people(), 3);
        due("2 one() is new", x.one(5, 1, 60), 0);
        due("2 he owns nothing", x.of(0, 3), NONE);
        due("2 he is here", x.of(0, 4), 1);
        due("2 the year", x.count(4), 0);
    }

    private static void thing() {
        StoneHeld x = new StoneHeld();
        due("3 thing(-1, 1)", x.thing(-1, 1), BAD);
        due("3 thing(6, 1)", x.thing(6, 1), BAD);
        due("3 thing(0, 0)", x.thing(0, 0), BAD);
        due("3 thing(0, 31)", x.thing(0, 31), BAD);
        due("3 thing(least)", x.thing(LEAST, GREATEST), BAD);
        due("3 none came", x.count(2), 0);
        for (int k = 0; k < 7; k++) {
            due("3 thing " + k, x.thing(k % 6, 1 + k % 2 * 29), k);
        }
        due("3 the 8th", x.thing(0, 1), FULL);
        due("3 bad goes first", x.thing(0, 31), BAD);
        due("3 count(2)", x.count(2), 7);
        counted(x, "3", 6, 0, 1);
        StoneHeld y = told("people;thing 0 9;one 0 1 0;");
        y.owns(0, 0);
        y.thing(0, 0);
        due("3 a refused one leaves undo", y.count(8), 1);
        y.thing(0, 1);
        due("3 nothing to undo behind it", y.count(8), 0);
    }

    private static void one() {
        StoneHeld x = new StoneHeld();
        due("4 one(-1, 1, 0)", x.one(-1, 1, 0), BAD);
        due("4 one(6, 1, 0)", x.one(6, 1, 0), BAD);
        due("4 one(0, 0, 0)", x.one(0, 0, 0), BAD);
        due("4 one(0, 10, 0)", x.one(0, 10, 0), BAD);
        due("4 one(0, 1, -1)", x.one(0, 1, -1), BAD);
        due("4 one(0, 1, 100)", x.one(0, 1, 100), BAD);
        for (int k = 0; k < 7; k++) {
            due("4 one " + k, x.one(k % 6, 1 + k % 2 * 8, k % 2 * 99), k);
        }
        due("4 the 8th", x.one(0, 1, 0), FULL);
        due("4 bad goes first", x.one(0, 1, 100), BAD);
        due("4 count(0)", x.count(0), 7);
        due("4 count(1)", x.count(1), 7);
        counted(x, "4", 7, 0, 1);
        StoneHeld y = new StoneHeld();
        y.years(1);
        due("4 to be undone", y.count(8), 1);
        y.one(0, 1, 0);
        due("4 nothing to undo behind him", y.undo(), NO);
        due("4 the year is as it was", y.count(4), 1);
    }

    private static void type() {
        StoneHeld x = new StoneHeld();
        due("5 type(-1)", x.type(-1), BAD);
        due("5 type(128)", x.type(128), BAD);
        for (int k = 1; k <= 150; k++) {
            due("5 type " + k, x.type(k % 2 * 127), k);
        }
        due("5 the 151st", x.type(32), FULL);
        due("5 bad goes first", x.type(128), BAD);
        due("5 count(9)", x.count(9), 150);
        counted(x, "5", 3, 0, 1);
    }

    private static void clear() {
        StoneHeld x = new StoneHeld();
        due("6 clear()", x.clear(), 0);
        tell(x, "people;");
        due("6 clear() of seven", x.clear(), 7);
        due("6 count(9)", x.count(9), 0);
        due("6 an empty text", x.read(), -10);
        due("6 type", x.type('p'), 1);
    }

    private static void read() {
        StoneHeld x = new StoneHeld();
        x.one(0, 1, 0);
        x.thing(0, 5);
        x.owns(0, 0);
        x.seen(0, 0, 0, 1);
        x.note(0, 1, 0, 0);
        x.mark(0, 1, 0, 0);
        x.shout(0, 1, 5);
        x.image(0);
        x.from(2);
        tell(x, " people ;thing 3 30;thing 05 07 ;one 4 9 45;one2 1 99;own 0 0;own 1 1;leave 1;years 10;");
        due("7 read()", x.read(), 9);
        due("7 digest()", x.digest(), mix(2, 0, 2, 0, 10, 0, 0, 0, 0, x.count(9),
                3, 30, 5, 7, 4, 9, 45, -1, 0, 2, 1, 99, -1, 0, 1, 2));
        due("7 undo()", x.undo(), NO);
        due("7 the image", x.from(0), 1);
        due("7 the image's own", x.of(0, 3), 0);
        counted(x, "7", 1, 1, 0);
        due("7 people alone", told("people;").count(0), 0);
        StoneHeld y = told("people;one 0 1 0;thing 0 30;own 0 0;years 60;years 99;");
        due("7 year 159", y.count(4), 159);
        due("7 aged 99", y.of(0, 2), 99);
        due("7 again", y.read(), 6);
        due("7 again the year", y.count(4), 159);
        tell(y, "people;one 0 1 0;one 0 1 0;leave 0;");
        due("7 what an earlier text gave is gone", y.read(), -43);
        tell(y, "people;thing 0 5;one 0 1 0;own 0 0;");
        due("7 and is free", y.read(), 4);
        due("7 the year is new", y.count(4), 0);
        StoneHeld z = told("people;years 99;years 99;years 99;years 99;years 99;years 99;years 99;years 99;"
                + "years 99;years 99;years 99;years 1;");
        due("7 year 999", z.count(4), 999);
    }

    private static void fault(String text, int place) {
        StoneHeld x = new StoneHeld();
        x.thing(1, 11);
        x.one(1, 2, 3);
        x.owns(0, 0);
        x.seen(0, 0, 0, 0);
        tell(x, text);
        long before = x.digest();
        due("7 fault of '" + text + "'", x.read(), -10 - place);
        due("7 all stays behind '" + text + "'", x.digest(), before);
        due("7 undo stays behind '" + text + "'", x.undo(), 0);
        counted(x, "7 a fault is no refusal", 0, 0, 0);
    }

    private static void readFaults() {
        fault("", 0);
        fault("   ", 3);
        fault("people", 6);
        fault("people ", 7);
        fault("peopl;", 0);
        fault("peoples;", 0);
        fault("xeople;", 0);
        fault("peoplx;", 0);
        fault("people;xhing 0 1;", 7);
        fault("people;xne 0 1 0;", 7);
        fault("people;years 1;xears 1;", 15);
        fault("people;thing 0 9;one 0 1 0;xwn 0 0;", 27);
        fault("people;thing 0 9;one 0 1 0;own 0 0;xeave 0;", 35);
        fault("people;thing 0 9;one 0 1 0;one 0 1 0;own 0 0;leave 1;", 51);
        fault("people;one 0 1 0;one 0 1 0;one 0 1 0;one 0 1 0;one 0 1 0;one 0 1 0;one 0 1 0;leave 7;", 83);
        fault("people;one 0 1 0;one 0 1 0;one 0 1 0;one 0 1 0;one 0 1 0;one 0 1 0;one 0 1 0;own 7 0;", 81);
        fault(" thing 0 1;people;", 1);
        fault(";people;", 0);
        fault("7people;", 0);
        fault("people;people;", 7);
        fault("people;;", 7);
        fault("people;man;", 7);
        fault("people;on 0 1 0;", 7);
        fault("people;one 0 1 0", 16);
        fault("people;one 0 1 ", 15);
        fault("people;one", 10);
        fault("people;one 6 1 0;", 11);
        fault("people;one 0 0 0;", 13);
        fault("people;one 0 10 0;", 13);
        fault("people;one 0 1 100;", 15);
        fault("people;one 0 1 0 0;", 17);
        fault("people;one 0 1 0 one;", 17);
        fault("people;thing 6 1;", 13);
        fault("people;thing 0 0;", 15);
        fault("people;thing 0 31;", 15);
        fault("people;thing 000 1;", 13);
        fault("people;thing 0 1;thing", 22);
        fault("people;Thing", 7);
        fault("people;`", 7);
        fault("people;{", 7);
        fault("people\t;", 6);
        fault("people;years 0;", 13);
        fault("people;years 100;", 13);
        fault("people;years 1 :", 15);
        fault("people;years 1 /", 15);
        fault("people;own 0 0;", 11);
        fault("people;thing 0 5;one 0 1 0;own 1 0;", 31);
        fault("people;thing 0 5;one 0 1 0;own 0 1;", 33);
        fault("people;thing 0 5;one 0 1 0;own 0 0;own 0 0;", 39);
        fault("people;thing 0 5;one 0 1 0;one 0 1 0;own 0 0;own 1 0;", 51);
        fault("people;thing 0 5;one 0 1 0;years 1;own 0 0;", 39);
        fault("people;one 0 1 0;leave 0;", 23);
        fault("people;one 0 1 0;leave 1;", 23);
        fault("people;one 0 1 0;thing 0 2;own 0 0;years 1;leave 0;", 49);
        fault("people;thing 0 1;thing 0 1;thing 0 1;thing 0 1;thing 0 1;thing 0 1;thing 0 1;thing", 77);
        fault("people;one 0 1 0;one 0 1 0;one 0 1 0;one 0 1 0;one 0 1 0;one 0 1 0;one 0 1 0;one 9", 77);
    }

    private static void owns() {
        StoneHeld x = told("people;thing 0 2;thing 0 3;one 0 1 0;one 0 1 0;one 0 1 0;");
        due("8 owns(3, 0)", x.owns(3, 0), BAD);
        due("8 owns(-1, 0)", x.owns(-1, 0), BAD);
        due("8 owns(0, 2)", x.owns(0, 2), BAD);
        due("8 owns(0, -1)", x.owns(0, -1), BAD);
        due("8 not held by what he lifts just so", x.owns(0, 0), 0);
        due("8 held", x.owns(1, 1), 1);
        due("8 owns something", x.owns(0, 1), NO);
        due("8 it is owned", x.owns(2, 1), NO);
        due("8 of", x.of(1, 3), 1);
        due("8 about", x.about(1, 2), 1);
        due("8 two may be undone", x.count(8), 2);
        x.years(1);
        due("8 he is lost, and it is nobody's", x.owns(0, 0), NO);
        due("8 bad goes first", x.owns(0, 2), BAD);
        counted(x, "8", 5, 3, 0);
    }

    private static void leaves() {
        StoneHeld x = told("people;thing 0 2;thing 0 9;one 0 1 0;one 0 1 0;own 0 1;own 1 0;");
        due("9 leaves(2)", x.leaves(2), BAD);
        due("9 leaves(-1)", x.leaves(-1), BAD);
        due("9 leaves(0)", x.leaves(0), 1);
        due("9 it is nobody's", x.about(1, 2), NONE);
        due("9 he owns nothing", x.leaves(0), NO);
        due("9 one may be undone", x.count(8), 1);
        x.years(1);
        due("9 he is lost", x.leaves(1), NO);
        counted(x, "9", 2, 2, 0);
    }

    private static void years() {
        StoneHeld x = told("people;thing 0 30;thing 0 9;thing 0 4;one 0 1 98;one 0 2 3;one 0 1 0;one 3 9 5;"
                + "own 0 0;own 1 1;own 3 2;");
        due("10 years(0)", x.years(0), BAD);
        due("10 years(61)", x.years(61), BAD);
        due("10 years(-1)", x.years(-1), BAD);
        // One 2 owns nothing; one 3 lifts 13 and is not held by 4.
        due("10 years(1)", x.years(1), 2);
        due("10 one older", x.of(0, 2), 99);
        due("10 who is lost is no older", x.of(3, 2), 5);
        due("10 who is lost owns nothing", x.of(3, 3), NONE);
        due("10 nobody's", x.about(2, 2), NONE);
        due("10 owned", x.count(3), 2);
        // One 1 lifts 4 and a third of his age: 9 when he is 15, which is behind 12 years in all.
        due("10 years(11)", x.years(11), 2);
        due("10 held yet", x.held(), 1);
        due("10 years(1) more", x.years(1), 1);
        due("10 lost at 15", x.of(1, 2), 15);
        due("10 ages end at 99", x.of(0, 2), 99);
        due("10 the year", x.count(4), 13);
        due("10 three may be undone", x.count(8), 3);
        due("10 years(60)", x.years(60), 1);
        due("10 the year then", x.count(4), 73);
        counted(x, "10", 3, 0, 0);
    }

    private static void yearsAtTheEnd() {
        StoneHeld x = told("people;years 99;years 99;years 99;years 99;years 99;years 99;years 99;years 99;"
                + "years 99;years 99;");
        x.one(0, 1, 0);
        x.thing(0, 30);
        x.owns(0, 0);
        due("10 at 990", x.count(4), 990);
        due("10 nine go by", x.years(60), 1);
        due("10 at 999", x.count(4), 999);
        due("10 nine older", x.of(0, 2), 9);
        due("10 none goes by", x.years(1), 1);
        due("10 none older", x.of(0, 2), 9);
        due("10 not owning is no loss then", x.leaves(0), 0);
        due("10 nobody is lost", x.years(1), 1);
        due("10 two and a leaving may be undone", x.count(8), 3);
        due("11 back before the leaving", x.undo(), 999);
        due("11 back to 990", x.undo(), 990);
    }

    private static void undo() {
        StoneHeld x = told("people;thing 0 3;thing 0 9;one 0 1 0;one 0 1 0;");
        due("11 undo()", x.undo(), NO);
        x.owns(0, 0);
        x.owns(1, 1);
        x.years(4);
        due("11 lost", x.of(0, 4), 0);
        due("11 undo of years", x.undo(), 0);
        due("11 here again", x.of(0, 4), 1);
        due("11 owns again", x.of(0, 3), 0);
        due("11 age", x.of(1, 2), 0);
        due("11 undo of giving", x.undo(), 0);
        due("11 owns none", x.of(1, 3), NONE);
        x.leaves(0);
        due("11 undo of leaving", x.undo(), 0);
        due("11 his again", x.of(0, 3), 0);
        due("11 one is left", x.count(8), 1);
        for (int k = 0; k < 9; k++) {
            x.years(1);
        }
        due("11 eight at most", x.count(8), 8);
        for (int k = 8; k >= 1; k--) {
            due("11 back to " + k, x.undo(), k);
        }
        due("11 no more", x.undo(), NO);
        due("11 the year stays", x.count(4), 1);
        x.seen(0, 0, 0, 1);
        x.years(1);
        x.note(0, 1, 0, 1);
        x.mark(0, 1, 0, 1);
        due("11 the year then", x.undo(), 1);
        due("11 seen stays", x.count(5), 1);
        due("11 notes stay", x.count(6), 1);
        due("11 marks stay", x.count(7), 1);
        x.years(1);
        x.owns(5, 5);
        x.leaves(1);
        due("11 refused ones are not to be undone", x.count(8), 1);
        counted(x, "11", 1, 3, 0);
    }

    private static void of() {
        StoneHeld x = told("people;thing 0 30;one 4 5 46;one 5 2 99;own 0 0;years 1;");
        int[][] facts = {{4, 5, 47, 0, 1}, {5, 2, 99, NONE, 0}};
        for (int i = 0; i < 2; i++) {
            for (int what = 0; what < 5; what++) {
                due("12 of(" + i + ", " + what + ")", x.of(i, what), facts[i][what]);
            }
        }
        due("12 of(0, 5)", x.of(0, 5), BAD);
        due("12 of(0, -1)", x.of(0, -1), BAD);
        due("12 of(2, 0)", x.of(2, 0), BAD);
        due("12 of(-1, 0)", x.of(-1, 0), BAD);
        counted(x, "12", 4, 0, 0);
    }

    private static void about() {
        StoneHeld x = told("people;thing 4 30;thing 2 1;one 0 1 0;one 0 1 0;own 1 0;");
        due("13 about(0, 0)", x.about(0, 0), 4);
        due("13 about(0, 1)", x.about(0, 1), 30);
        due("13 about(0, 2)", x.about(0, 2), 1);
        due("13 about(1, 0)", x.about(1, 0), 2);
        due("13 about(1, 1)", x.about(1, 1), 1);
        due("13 about(1, 2)", x.about(1, 2), NONE);
        due("13 about(0, 3)", x.about(0, 3), BAD);
        due("13 about(0, -1)", x.about(0, -1), BAD);
        due("13 about(2, 0)", x.about(2, 0), BAD);
        due("13 about(-1, 0)", x.about(-1, 0), BAD);
        counted(x, "13", 4, 0, 0);
    }

    private static int liftOf(int kind, int strength, int age) {
        StoneHeld x = new StoneHeld();
        x.one(kind, strength, age);
        return x.lifts(0, 0);
    }

    private static void lifts() {
        due("14 plain 1 at 0", liftOf(0, 1, 0), 2);
        due("14 plain 1 at 2", liftOf(0, 1, 2), 2);
        due("14 plain 1 at 3", liftOf(0, 1, 3), 3);
        due("14 plain 9 at 29", liftOf(0, 9, 29), 27);
        due("14 plain 9 at 30", liftOf(0, 9, 30), 28);
        due("14 plain 9 at 99", liftOf(0, 9, 99), 28);
        due("14 smith 1 at 3", liftOf(1, 1, 3), 11);
        due("14 weak 1 at 3", liftOf(2, 1, 3), 1);
        due("14 weak 9 at 30", liftOf(2, 9, 30), 14);
        due("14 lad 1 at 0", liftOf(3, 1, 0), 0);
        due("14 lad 3 at 3", liftOf(3, 3, 3), 1);
        due("14 lad 3 at 17", liftOf(3, 3, 17), 5);
        due("14 lad 3 at 18", liftOf(3, 3, 18), 12);
        due("14 wedded 1 at 4", liftOf(4, 1, 4), 11);
        due("14 wedded 1 at 5", liftOf(4, 1, 5), 22);
        due("14 wedded 9 at 95", liftOf(4, 9, 95), 72);
        due("14 wedded 9 at 50", liftOf(4, 9, 50), 36);
        due("14 old 9 at 64", liftOf(5, 9, 64), 14);
        due("14 old 9 at 65", liftOf(5, 9, 65), 13);
        due("14 old 9 at 99", liftOf(5, 9, 99), 7);
        due("14 old 1 at 99", liftOf(5, 1, 99), 0);
        due("14 old 2 at 20", liftOf(5, 2, 20), 5);
        StoneHeld x = told("people;one 0 1 0;years 1;one 0 1 0;one 4 1 94;");
        due("14 lost, no older", x.lifts(0, 60), 2);
        due("14 not lost yet, though he will be", x.lifts(1, 9), 5);
        due("14 behind 60", x.lifts(1, 60), 12);
        due("14 wedded at 95", x.lifts(2, 1), 40);
        due("14 wedded at 99 at most", x.lifts(2, 11), 20);
        due("14 lifts(1, 61)", x.lifts(1, 61), BAD);
        due("14 lifts(1, -1)", x.lifts(1, -1), BAD);
        due("14 lifts(3, 0)", x.lifts(3, 0), BAD);
        due("14 lifts(-1, 0)", x.lifts(-1, 0), BAD);
        counted(x, "14", 4, 0, 0);
    }

    private static void weighs() {
        StoneHeld x = told("people;thing 0 7;thing 1 7;thing 2 7;thing 3 7;thing 4 7;thing 5 7;thing 2 8;");
        int[] even = {7, 13, 4, 13, 4, 7, 4};
        for (int t = 0; t < 7; t++) {
            due("15 weighs(" + t + ", 0)", x.weighs(t, 0), even[t]);
        }
        due("15 wall at 9", x.weighs(3, 9), 13);
        due("15 wall at 10", x.weighs(3, 10), 14);
        due("15 wall at 60", x.weighs(3, 60), 19);
        due("15 self at 1", x.weighs(4, 1), 13);
        due("15 self at 2", x.weighs(4, 2), 4);
        for (int k = 0; k < 17; k++) {
            x.years(60);
        }
        due("15 the wall's most", x.weighs(3, 0), 33);
        due("15 self at 999", x.weighs(4, 0), 13);
        due("15 self at 1000", x.weighs(4, 1), 4);
        due("15 weighs(0, 61)", x.weighs(0, 61), BAD);
        due("15 weighs(0, -1)", x.weighs(0, -1), BAD);
        due("15 weighs(7, 0)", x.weighs(7, 0), BAD);
        due("15 weighs(-1, 0)", x.weighs(-1, 0), BAD);
        counted(x, "15", 4, 0, 0);
        StoneHeld y = told("people;thing 3 7;years 99;years 99;");
        due("15 wall at 199", y.weighs(0, 1), 32);
        due("15 wall at 200", y.weighs(0, 2), 33);
        due("15 wall at 210", y.weighs(0, 12), 33);
    }

    private static void held() {
        StoneHeld x = new StoneHeld();
        due("16 nobody", x.held(), 0);
        x = told("people;thing 0 2;thing 0 3;thing 4 3;one 0 1 0;one 0 1 0;one 0 1 0;one 0 1 0;"
                + "own 0 0;own 1 1;own 2 2;");
        due("16 held()", x.held(), 2);
        x.years(1);
        x = told("people;thing 4 3;thing 0 9;one 0 1 0;years 1;one 0 1 0;one 0 1 0;own 1 0;own 2 1;");
        due("16 the self in an odd year", x.held(), 6);
        x.years(1);
        due("16 in an even one", x.held(), 4);
        x.years(1);
        due("16 lost", x.held(), 4);
    }

    private static void left() {
        StoneHeld x = told("people;thing 0 3;thing 0 9;one 0 1 0;one 0 1 0;one 0 1 0;own 0 0;own 1 1;");
        long before = x.digest();
        due("17 left(0)", x.left(0), 7);
        due("17 left(1)", x.left(1), 3);
        due("17 left(3)", x.left(3), 3);
        due("17 left(4)", x.left(4), 2);
        due("17 left(21)", x.left(21), 2);
        due("17 left(22)", x.left(22), 0);
        due("17 left(60)", x.left(60), 0);
        due("17 nothing is changed", x.digest(), before);
        due("17 left(-1)", x.left(-1), BAD);
        due("17 left(61)", x.left(61), BAD);
        counted(x, "17", 2, 0, 0);
    }

    private static void when() {
        StoneHeld x = told("people;thing 0 3;thing 0 12;thing 0 30;one 0 1 0;one 0 1 0;one 0 1 0;one 0 1 0;"
                + "own 0 0;own 1 1;own 2 2;");
        due("18 when(0)", x.when(0), 4);
        due("18 when(1)", x.when(1), 31);
        due("18 when(2)", x.when(2), NONE);
        due("18 when(3)", x.when(3), 1);
        due("18 when(4)", x.when(4), BAD);
        due("18 when(-1)", x.when(-1), BAD);
        x.years(1);
        due("18 lost already", x.when(3), NONE);
        due("18 a year on", x.when(0), 3);
        counted(x, "18", 2, 0, 0);
        // The wedded one lifts 20, and 40 in every fifth year of his ten; 99 at most.
        StoneHeld y = told("people;thing 0 30;thing 0 30;one 4 1 36;one 4 1 96;own 0 0;own 1 1;");
        due("18 wedded at 45", y.when(0), 10);
        due("18 wedded at 99 for good", y.when(1), NONE);
        // Old ones grow weaker; a self is light in even years.
        StoneHeld z = told("people;thing 4 6;one 5 2 60;years 1;");
        z.one(5, 1, 70);
        z.owns(1, 0);
        due("18 self in an even year", z.when(1), 2);
        StoneHeld w = told("people;one 0 1 0;one 0 1 0;thing 0 30;own 0 0;");
        w.years(60);
        due("18 at 60", w.when(0), NONE);
    }

    private static void lasts() {
        StoneHeld x = told("people;thing 0 2;thing 0 3;thing 0 12;thing 0 30;thing 4 6;one 0 1 0;one 5 1 99;"
                + "one 4 1 36;");
        due("19 lasts(0, 0)", x.lasts(0, 0), 0);
        due("19 lasts(0, 1)", x.lasts(0, 1), 3);
        due("19 lasts(0, 2)", x.lasts(0, 2), 30);
        due("19 lasts(0, 3)", x.lasts(0, 3), 60);
        due("19 lasts(0, 4)", x.lasts(0, 4), 4);
        due("19 lasts(1, 0)", x.lasts(1, 0), 60);
        due("19 lasts(2, 3)", x.lasts(2, 3), 9);
        due("19 lasts(3, 0)", x.lasts(3, 0), BAD);
        due("19 lasts(0, 5)", x.lasts(0, 5), BAD);
        due("19 lasts(-1, -1)", x.lasts(-1, -1), BAD);
        x.owns(0, 3);
        due("19 whoever owns it", x.lasts(2, 3), 9);
        x.years(1);
        due("19 lost", x.lasts(2, 3), NO);
        due("19 bad goes first", x.lasts(2, 5), BAD);
        counted(x, "19", 4, 1, 0);
    }

    private static void match() {
        // All lift 2 now; 3 when they are three years old.
        StoneHeld x = told("people;thing 0 3;thing 0 4;thing 0 2;one 0 1 0;one 0 1 0;one 0 1 0;one 0 9 0;");
        due("20 how many for 1", x.match(1, NONE), 2);
        due("20 none first", x.match(1, 0), NONE);
        due("20 then things rising", x.match(1, 1), 0);
        due("20 the rest", x.match(1, 2), 1);
        due("20 the strong one", x.match(1, 3), NONE);
        due("20 three years by either", x.match(3, NONE), 2);
        due("20 four years by one", x.match(4, NONE), 1);
        due("20 its holder", x.match(4, 2), 1);
        due("20 not the others", x.match(4, 1), NONE);
        due("20 seven years", x.match(7, NONE), 0);
        x.owns(0, 0);
        x.owns(1, 1);
        due("20 things are given anew", x.match(1, 2), 1);
        x.years(1);
        due("20 the lost get none", x.match(1, 2), NONE);
        due("20 those here do", x.match(1, 0), 0);
        due("20 and so", x.match(1, 1), 1);
        due("20 two are held", x.match(1, NONE), 2);
        due("20 match(0, -1)", x.match(0, NONE), -10);
        due("20 match(61, -1)", x.match(61, NONE), -10);
        due("20 match(1, -2)", x.match(1, -2), -10);
        due("20 match(1, 4)", x.match(1, 4), -10);
        counted(x, "20", 4, 0, 0);
        // One 0 can be held by 0 and 1, one 1 by 1 alone: all are held, so none is not first.
        StoneHeld y = told("people;thing 0 9;thing 0 5;one 0 4 0;one 0 1 0;one 0 1 0;thing 0 3;");
        due("20 three", y.match(1, NONE), 3);
        due("20 one 0", y.match(1, 0), 0);
        due("20 one 1", y.match(1, 1), 1);
        due("20 one 2", y.match(1, 2), 2);
        // The first one has to leave the lighter thing to the second.
        StoneHeld z = told("people;thing 0 30;thing 0 9;one 0 1 0;one 0 9 0;");
        due("20 the second needs the heavy one", z.match(1, 0), 1);
        due("20 the heavy one", z.match(1, 1), 0);
        due("20 nobody", new StoneHeld().match(1, NONE), 0);
    }

    private static void light() {
        due("21 nobody", new StoneHeld().light(1), 0);
        // The wall weighs 6 more than told, the trunk half of it.
        StoneHeld x = told("people;thing 3 2;thing 2 30;thing 0 5;thing 0 6;one 0 1 0;one 0 2 0;");
        due("21 light(1)", x.light(1), 7);
        // Aged 8, one 0 lifts 4 and one 1 lifts 6: but for the wall and the trunk only 5 and 6 hold one 0.
        due("21 light(9)", x.light(9), 7);
        due("21 light(10)", x.light(10), 8);
        due("21 light(60)", x.light(60), NONE);
        x.owns(0, 0);
        due("21 owned ones too", x.light(1), 7);
        due("21 light(0)", x.light(0), BAD);
        due("21 light(61)", x.light(61), BAD);
        counted(x, "21", 2, 0, 0);
        x.one(0, 9, 99);
        due("21 not all can be", x.light(1), NONE);
        x.years(1);
        due("21 one is here", x.light(1), 2);
        x.leaves(0);
        x.years(1);
        due("21 nobody is here", x.light(1), 0);
    }

    private static void two() {
        // They lift 2, 4, 6, 18; the thing weighs 7.
        StoneHeld x = told("people;thing 0 8;one 0 1 0;one 0 2 0;one 0 3 0;one 0 9 0;");
        due("22 how many", x.two(0, NONE), 2);
        due("22 the first", x.two(0, 0), 2);
        due("22 the second", x.two(0, 1), 12);
        due("22 no third", x.two(0, 2), -5);
        due("22 far beyond", x.two(0, GREATEST), -5);
        due("22 two(0, -2)", x.two(0, -2), -10);
        due("22 two(1, 0)", x.two(1, 0), -10);
        due("22 two(-1, -1)", x.two(-1, NONE), -10);
        counted(x, "22", 3, 0, 0);
        x.owns(0, 0);
        x.years(1);
        due("22 the lost don't", x.two(0, NONE), 0);
        // Who lifts as much as it weighs is none of two.
        StoneHeld y = told("people;thing 0 4;one 0 1 0;one 0 2 0;one 0 1 0;");
        due("22 just so", y.two(0, NONE), 1);
        due("22 these two", y.two(0, 0), 2);
    }

    private static void seen() {
        StoneHeld x = told("people;one 0 1 0;years 1;");
        due("23 seen(1, ..)", x.seen(1, 0, 0, 0), BAD);
        due("23 seen(-1, ..)", x.seen(-1, 0, 0, 0), BAD);
        due("23 aged -1", x.seen(0, -1, 0, 0), BAD);
        due("23 aged 100", x.seen(0, 100, 0, 0), BAD);
        due("23 what weighed -1", x.seen(0, 0, -1, 0), BAD);
        due("23 what weighed 61", x.seen(0, 0, 61, 0), BAD);
        due("23 lifted -1", x.seen(0, 0, 0, -1), BAD);
        due("23 lifted 2", x.seen(0, 0, 0, 2), BAD);
        for (int k = 1; k <= 5; k++) {
            due("23 seen " + k, x.seen(0, 99, 60, k % 2), k);
        }
        due("23 the 6th", x.seen(0, 0, 0, 0), FULL);
        due("23 bad goes first", x.seen(0, 0, 0, 2), BAD);
        due("23 count(5)", x.count(5), 5);
        counted(x, "23", 9, 0, 1);
    }

    private static void strong() {
        StoneHeld x = told("people;one 0 5 40;one 2 1 0;");
        due("24 all", x.strong(0, 0), 9);
        due("24 the least", x.strong(0, 1), 1);
        due("24 the greatest", x.strong(0, 2), 9);
        // Aged 30 a plain one lifts twice his strength and 10.
        x.seen(0, 30, 18, 1);
        due("24 4 or more", x.strong(0, 0), 6);
        due("24 the least is 4", x.strong(0, 1), 4);
        x.seen(0, 30, 25, 0);
        due("24 7 or less", x.strong(0, 2), 7);
        due("24 4 to 7", x.strong(0, 0), 4);
        due("24 the other one", x.strong(1, 0), 9);
        x.seen(1, 0, 4, 1);
        due("24 a weak one lifts his strength", x.strong(1, 1), 4);
        due("24 what is seen of him alone", x.strong(0, 0), 4);
        x.seen(0, 0, 0, 0);
        due("24 none", x.strong(0, 0), 0);
        due("24 no least", x.strong(0, 1), NONE);
        due("24 no greatest", x.strong(0, 2), NONE);
        due("24 strong(0, 3)", x.strong(0, 3), BAD);
        due("24 strong(0, -1)", x.strong(0, -1), BAD);
        due("24 strong(2, 0)", x.strong(2, 0), BAD);
        due("24 strong(-1, 0)", x.strong(-1, 0), BAD);
        counted(x, "24", 4, 0, 0);
    }

    private static void tell() {
        // Aged 0 the plain lift 2, 4 .. 18: by 9 or 10 they part 5 and 4.
        StoneHeld x = told("people;one 0 1 0;one 5 1 0;one 3 1 0;");
        due("25 tell(0)", x.tell(0), 9);
        x.seen(0, 0, 9, 1);
        due("25 five to part", x.tell(0), 13);
        x.seen(0, 0, 17, 1);
        due("25 one alone", x.tell(0), 0);
        x.seen(0, 0, 17, 0);
        due("25 no strength", x.tell(0), NONE);
        // Aged 0 lads of strength 1, 2, 3 lift 0, so two of them part at ten: 0, 1.
        due("25 tell(2)", x.tell(2), 3);
        x.forget(0);
        x.seen(2, 0, 1, 0);
        due("25 three lads of ten", x.tell(2), 101);
        due("25 tell(3)", x.tell(3), BAD);
        due("25 tell(-1)", x.tell(-1), BAD);
        counted(x, "25", 2, 0, 0);
    }

    private static void note() {
        StoneHeld x = told("people;thing 0 1;");
        due("26 note(1, ..)", x.note(1, 1, 0, 0), BAD);
        due("26 note(-1, ..)", x.note(-1, 1, 0, 0), BAD);
        due("26 weight 0", x.note(0, 0, 0, 0), BAD);
        due("26 weight 31", x.note(0, 31, 0, 0), BAD);
        due("26 year -1", x.note(0, 1, -1, 0), BAD);
        due("26 year 100", x.note(0, 1, 100, 0), BAD);
        due("26 weighed -1", x.note(0, 1, 0, -1), BAD);
        due("26 weighed 100", x.note(0, 1, 0, 100), BAD);
        for (int k = 1; k <= 6; k++) {
            due("26 note " + k, x.note(0, 30, 99, 99), k);
        }
        due("26 the 7th", x.note(0, 1, 0, 0), FULL);
        due("26 bad goes first", x.note(0, 0, 0, 0), BAD);
        due("26 count(6)", x.count(6), 6);
        counted(x, "26", 9, 0, 1);
    }

    private static void mark() {
        StoneHeld x = told("people;one 0 1 0;");
        due("27 mark(1, ..)", x.mark(1, 1, 0, 0), BAD);
        due("27 mark(-1, ..)", x.mark(-1, 1, 0, 0), BAD);
        due("27 strength 0", x.mark(0, 0, 0, 0), BAD);
        due("27 strength 10", x.mark(0, 10, 0, 0), BAD);
        due("27 aged -1", x.mark(0, 1, -1, 0), BAD);
        due("27 aged 100", x.mark(0, 1, 100, 0), BAD);
        due("27 lifted -1", x.mark(0, 1, 0, -1), BAD);
        due("27 lifted 100", x.mark(0, 1, 0, 100), BAD);
        for (int k = 1; k <= 6; k++) {
            due("27 mark " + k, x.mark(0, 9, 99, 99), k);
        }
        due("27 the 7th", x.mark(0, 1, 0, 0), FULL);
        due("27 bad goes first", x.mark(0, 0, 0, 0), BAD);
        due("27 count(7)", x.count(7), 6);
        counted(x, "27", 9, 0, 1);
    }

    private static void forget() {
        StoneHeld x = told("people;one 0 1 0;thing 0 1;");
        x.seen(0, 0, 0, 1);
        x.note(0, 1, 0, 9);
        x.note(0, 1, 0, 9);
        x.mark(0, 1, 0, 9);
        x.mark(0, 1, 0, 9);
        x.mark(0, 1, 0, 9);
        due("28 forget(1)", x.forget(1), 2);
        due("28 no notes", x.count(6), 0);
        due("28 seen yet", x.count(5), 1);
        due("28 marks yet", x.count(7), 3);
        due("28 is()", x.is(0), 63);
        due("28 forget(2)", x.forget(2), 3);
        due("28 kinds()", x.kinds(0), 63);
        due("28 forget(0)", x.forget(0), 1);
        due("28 forget(0) again", x.forget(0), 0);
        due("28 forget(3)", x.forget(3), BAD);
        due("28 forget(-1)", x.forget(-1), BAD);
        counted(x, "28", 2, 0, 0);
    }

    private static void is() {
        StoneHeld x = told("people;thing 0 1;thing 1 1;");
        due("29 without notes", x.is(0), 63);
        // 8 in year 11: bell of 2 and no other; a wall would weigh 9, a self 10.
        x.note(0, 2, 11, 8);
        due("29 a bell", x.is(0), 2);
        due("29 of the other none", x.is(1), 63);
        x.note(1, 15, 2, 8);
        due("29 trunk or self", x.is(1), 20);
        x.note(1, 15, 3, 17);
        due("29 a self", x.is(1), 16);
        x.note(1, 15, 3, 8);
        due("29 none", x.is(1), 0);
        x.forget(1);
        x.note(0, 15, 0, 15);
        due("29 stone or sister", x.is(0), 33);
        x.note(0, 16, 0, 15);
        due("29 a sister", x.is(0), 32);
        x.note(1, 30, 99, 45);
        due("29 a wall", x.is(1), 8);
        due("29 is(2)", x.is(2), BAD);
        due("29 is(-1)", x.is(-1), BAD);
        counted(x, "29", 2, 0, 0);
    }

    private static void look() {
        // Of weight 30, in years below 10: 30, 36, 15, 36, 15 or 24, 29.
        StoneHeld x = told("people;thing 0 30;thing 0 1;");
        due("30 the wall parts from 10, the self when odd", x.look(0), 11);
        x.note(0, 2, 0, 8);
        due("30 bell or wall", x.look(0), 10);
        x.note(0, 2, 20, 8);
        due("30 a bell alone", x.look(0), 0);
        x.note(0, 2, 20, 9);
        due("30 no kind", x.look(0), NONE);
        // Of weight 1: stone, trunk, sister weigh 1, and the self 10 when odd.
        due("30 look(1)", x.look(1), 1);
        x.note(1, 2, 0, 1);
        due("30 trunk, self or sister", x.look(1), 1);
        due("30 look(2)", x.look(2), BAD);
        due("30 look(-1)", x.look(-1), BAD);
        counted(x, "30", 2, 0, 0);
    }

    private static void kinds() {
        StoneHeld x = told("people;one 0 1 0;one 0 1 0;");
        due("31 without marks", x.kinds(0), 63);
        // Of strength 9, aged 30: 28, 36, 14, 28, 36, 14.
        x.mark(0, 9, 30, 28);
        due("31 plain or lad", x.kinds(0), 9);
        due("31 of the other none", x.kinds(1), 63);
        x.mark(0, 9, 17, 17);
        due("31 a lad", x.kinds(0), 8);
        x.mark(0, 9, 17, 23);
        due("31 none", x.kinds(0), 0);
        x.forget(2);
        x.mark(0, 9, 30, 36);
        due("31 smith or wedded", x.kinds(0), 18);
        x.mark(0, 9, 35, 36);
        due("31 a smith", x.kinds(0), 2);
        x.forget(2);
        x.mark(0, 9, 30, 14);
        due("31 weak or old", x.kinds(0), 36);
        x.mark(0, 9, 65, 13);
        due("31 an old one", x.kinds(0), 32);
        due("31 kinds(2)", x.kinds(2), BAD);
        due("31 kinds(-1)", x.kinds(-1), BAD);
        counted(x, "31", 2, 0, 0);
    }

    private static void ask() {
        StoneHeld x = told("people;one 0 9 0;one 0 1 0;");
        // Of strength 9, aged 0: 18, 26, 9, 12, 26, 9: two alike; all unlike nowhere, for lads and old ones.
        due("32 ask(0)", x.ask(0), 0);
        x.mark(0, 9, 30, 36);
        due("32 smith or wedded", x.ask(0), 5);
        x.forget(2);
        x.mark(0, 9, 30, 14);
        due("32 weak or old", x.ask(0), 65);
        x.forget(2);
        x.mark(0, 9, 30, 28);
        due("32 plain or lad", x.ask(0), 0);
        x.mark(0, 9, 30, 99);
        due("32 no kind", x.ask(0), NONE);
        due("32 ask(2)", x.ask(2), BAD);
        due("32 ask(-1)", x.ask(-1), BAD);
        counted(x, "32", 2, 0, 0);
        // Of strength 6, aged 0, a plain one, a weak and an old one, a lad: 12, 20, 6, 6, 20, 6.
        StoneHeld y = told("people;one 0 6 0;");
        due("32 three alike at 0", y.ask(0), 3);
    }

    private static void tries() {
        // They lift 2, 4 and 18.
        StoneHeld x = told("people;one 0 1 0;one 0 2 0;one 0 9 0;thing 0 30;thing 0 6;thing 0 5;thing 0 4;");
        due("33 too heavy for both", x.tries(0, 1, 0), 1);
        // Together they lift it, alone neither: who tries alone gets -2, so both or neither.
        due("33 both or neither", x.tries(0, 1, 1), 9);
        due("33 b lifts it alone", x.tries(0, 1, 3), 8);
        due("33 a lifts it alone", x.tries(1, 0, 3), 8);
        due("33 both lift it alone", x.tries(2, 1, 3), 8);
        due("33 alike", x.tries(1, 1, 0), BAD);
        due("33 tries(3, 0, 0)", x.tries(3, 0, 0), BAD);
        due("33 tries(0, 3, 0)", x.tries(0, 3, 0), BAD);
        due("33 tries(0, 1, 4)", x.tries(0, 1, 4), BAD);
        due("33 tries(-1, 1, 0)", x.tries(-1, 1, 0), BAD);
        due("33 tries(0, 1, -1)", x.tries(0, 1, -1), BAD);
        x.years(1);
        due("33 the lost, too", x.tries(0, 1, 1), 9);
        counted(x, "33", 6, 0, 0);
    }

    private static void fraction(StoneHeld x, String what, long above, long below) {
        due(what + " above", x.part(0), above);
        due(what + " below", x.part(1), below);
    }

    private static void shout() {
        // He lifts 2, and 3 from his third year on; the thing weighs 8: in no shout at first, then by one.
        StoneHeld x = told("people;thing 0 8;thing 0 30;one 0 1 0;one 0 1 0;own 0 0;own 1 1;");
        due("34 shout(0, 3, 5)", x.shout(0, 3, 5), 1);
        fraction(x, "34 held in any case", 1, 1);
        due("34 shout(0, 4, 4)", x.shout(0, 4, 4), 1);
        fraction(x, "34 six of ten", 3, 5);
        x.shout(0, 6, 3);
        fraction(x, "34 seven of ten, three times", 343, 1000);
        x.shout(0, 6, 0);
        fraction(x, "34 never", 1, 1);
        x.shout(0, 6, 10);
        fraction(x, "34 always", 0, 1);
        x.shout(1, 6, 10);
        fraction(x, "34 a heavy thing", 1, 1);
        x.leaves(1);
        x.shout(1, 0, 10);
        fraction(x, "34 no years", 1, 1);
        x.shout(1, 1, 0);
        fraction(x, "34 owning nothing", 0, 1);
        StoneHeld y = told("people;thing 0 7;one 0 1 0;own 0 0;");
        y.shout(0, 6, 1);
        fraction(y, "34 nine of ten, six times", 531441, 1000000);
        y.shout(0, 6, 5);
        fraction(y, "34 one of two, six times", 1, 64);
        due("34 shout(1, 0, 0)", y.shout(1, 0, 0), BAD);
        due("34 shout(-1, 0, 0)", y.shout(-1, 0, 0), BAD);
        due("34 shout(0, -1, 0)", y.shout(0, -1, 0), BAD);
        due("34 shout(0, 7, 0)", y.shout(0, 7, 0), BAD);
        due("34 shout(0, 0, -1)", y.shout(0, 0, -1), BAD);
        due("34 shout(0, 0, 11)", y.shout(0, 0, 11), BAD);
        y.leaves(0);
        y.years(1);
        due("34 lost", y.shout(0, 0, 0), NO);
        due("34 bad goes first", y.shout(0, 7, 0), BAD);
        fraction(y, "34 as it was", 1, 64);
        counted(y, "34", 7, 1, 0);
        // A self of 6: 3, and 12 when odd; he lifts 2 and holds on without a shout when even.
        StoneHeld z = told("people;thing 4 6;one 0 1 0;own 0 0;");
        z.shout(0, 2, 2);
        fraction(z, "34 even, then odd", 4, 5);
        z.shout(0, 3, 2);
        fraction(z, "34 even, odd, even", 16, 25);
        z.shout(0, 5, 2);
        fraction(z, "34 at 3 he lifts 3: odd yet; at 4 even: lost", 0, 1);
    }

    private static void centuries() {
        StoneHeld x = told("people;thing 0 30;thing 0 30;thing 0 30;thing 0 30;thing 0 30;thing 0 30;thing 0 30;"
                + "one 0 1 0;one 0 1 0;one 0 1 0;");
        x.one(0, 1, 0);
        x.one(0, 1, 0);
        x.one(0, 1, 0);
        x.one(0, 1, 0);
        long before = x.digest();
        due("35 no years", x.centuries(0, 0), 7);
        // All are there and all things are free: the first one asked gets a thing, the others are lost.
        for (int seed = 0; seed < 50; seed++) {
            due("35 seed " + seed, x.centuries(seed * 19999, 60), 1);
        }
        due("35 nothing is changed", x.digest(), before);
        due("35 seed -1", x.centuries(-1, 0), BAD);
        due("35 seed 1000000", x.centuries(1000000, 0), BAD);
        due("35 years -1", x.centuries(0, -1), BAD);
        due("35 years 61", x.centuries(0, 61), BAD);
        counted(x, "35", 4, 0, 0);
        // From seed 0: X is 12345, 12345 by 65536 is 0: one 0 gets thing 0, and no other one anything.
        StoneHeld y = told("people;thing 0 30;one 0 1 0;");
        due("35 one 0 gets thing 0", y.centuries(0, 1), 1);
        due("35 60 years", y.centuries(0, 60), 1);
        // From seed 1: X is 1103527590; by 65536 it is 16838, 3 left over; by 1048576 it is 1052, 2 left over.
        StoneHeld z = told("people;one 0 1 0;one 0 1 0;one 0 1 0;one 0 1 0;thing 0 30;thing 0 30;");
        due("35 thing 2 is not there", z.centuries(1, 1), 0);
        z.thing(0, 1);
        due("35 it is too light", z.centuries(1, 1), 0);
        StoneHeld w = told("people;one 0 1 0;one 0 1 0;one 0 1 0;one 0 1 0;thing 0 30;thing 0 30;thing 0 30;");
        due("35 one 3 gets thing 2", w.centuries(1, 1), 1);
        w.owns(0, 2);
        due("35 it is somebody's", w.centuries(1, 1), 1);
        w.owns(3, 1);
        due("35 he owns something", w.centuries(1, 1), 2);
    }

    private static void part() {
        StoneHeld x = told("people;thing 0 7;one 0 1 0;own 0 0;");
        fraction(x, "36 at first", 0, 1);
        x.shout(0, 1, 2);
        fraction(x, "36 lowest terms", 4, 5);
        due("36 part(2)", x.part(2), BAD);
        due("36 part(-1)", x.part(-1), BAD);
        counted(x, "36", 2, 0, 0);
    }

    private static void image() {
        StoneHeld x = new StoneHeld();
        due("37 image(-1)", x.image(-1), BAD);
        due("37 image(2)", x.image(2), BAD);
        due("37 image(0) of nobody", x.image(0), 1);
        due("37 from(1)", x.from(1), NO);
        x.one(0, 1, 0);
        due("37 image(1)", x.image(1), 1);
        x.one(0, 1, 0);
        x.from(1);
        due("37 it kept one", x.count(0), 1);
        x.from(0);
        due("37 it kept none", x.count(0), 0);
        x.from(1);
        due("37 image(0) anew", x.image(0), 1);
        x.people();
        x.from(0);
        due("37 kept anew", x.count(0), 1);
        counted(x, "37", 2, 1, 0);
    }

    private static void from() {
        StoneHeld x = told("people;thing 0 30;thing 1 7;one 0 1 0;one 1 2 3;own 0 0;years 1;");
        x.leaves(0);
        x.owns(0, 1);
        x.years(1);
        x.seen(0, 1, 2, 1);
        x.note(1, 2, 3, 4);
        x.mark(1, 2, 3, 4);
        long before = x.digest();
        due("38 image(0)", x.image(0), 1);
        due("38 from(0) changes nothing", x.from(0), 1);
        due("38 alike", x.digest(), before);
        x.undo();
        x.undo();
        x.thing(0, 1);
        x.one(3, 3, 3);
        x.years(9);
        x.forget(0);
        x.forget(1);
        x.forget(2);
        due("38 from(0)", x.from(0), 1);
        due("38 all is back", x.digest(), before);
        due("38 what may be undone, too", x.undo(), 1);
        due("38 the second", x.undo(), 1);
        due("38 owns none", x.of(0, 3), NONE);
        due("38 the third", x.undo(), 1);
        due("38 owns the first", x.of(0, 3), 0);
        due("38 no fourth", x.undo(), NO);
        x.type('x');
        x.shout(0, 0, 0);
        due("38 once more", x.from(0), 1);
        due("38 the text is not the image's", x.count(9), 65);
        due("38 nor is the fraction", x.part(0), 1);
        due("38 from(1)", x.from(1), NO);
        due("38 from(2)", x.from(2), BAD);
        due("38 from(-1)", x.from(-1), BAD);
        counted(x, "38", 2, 2, 0);
    }

    private static void status() {
        StoneHeld x = new StoneHeld();
        counted(x, "39 at first", 0, 0, 0);
        x.undo();
        x.undo();
        x.thing(9, 9);
        for (int k = 0; k < 10; k++) {
            x.thing(0, 1);
        }
        counted(x, "39", 1, 2, 3);
        due("39 status(3)", x.status(3), -1);
        due("39 status(-1)", x.status(-1), -1);
        counted(x, "39 another what counts as bad", 3, 2, 3);
        x.match(0, 0);
        x.two(9, 0);
        counted(x, "39 -10 counts as bad", 5, 2, 3);
        x.two(0, 0);
        x.strong(0, 0);
        x.read();
        counted(x, "39 -5 and faults do not count", 6, 2, 3);
        x.people();
        counted(x, "39 it stays", 6, 2, 3);
    }

    private static void count() {
        StoneHeld x = told("people;thing 0 30;thing 0 30;thing 0 30;one 0 1 0;one 0 1 0;one 0 1 0;one 0 1 0;"
                + "own 0 0;own 1 1;years 5;");
        x.years(2);
        x.leaves(0);
        x.seen(0, 0, 0, 0);
        for (int k = 0; k < 3; k++) {
            x.note(0, 1, 0, 0);
            x.mark(0, 1, 0, 0);
        }
        x.mark(0, 1, 0, 0);
        int[] counts = {4, 2, 3, 1, 7, 1, 3, 4, 2, 104};
        for (int what = 0; what < 10; what++) {
            due("40 count(" + what + ")", x.count(what), counts[what]);
        }
        due("40 count(10)", x.count(10), BAD);
        due("40 count(-1)", x.count(-1), BAD);
        counted(x, "40", 2, 0, 0);
    }

    private static void digest() {
        due("41 of a new one", new StoneHeld().digest(), mix(0, 0, 0, 0, 0, 0, 0, 0, 0, 0, 0, 1));
        StoneHeld x = told("people;thing 3 9;thing 5 30;one 2 3 4;one 5 6 70;own 1 0;");
        x.years(1);
        x.seen(1, 2, 3, 1);
        x.seen(0, 99, 60, 0);
        x.note(1, 30, 99, 98);
        x.mark(0, 9, 97, 96);
        x.shout(1, 1, 5);
        x.type(0);
        due("41 of all", x.digest(), mix(2, 1, 2, 1, 1, 2, 1, 1, 1, 58,
                3, 9, 5, 30,
                2, 3, 4, -1, 0, 5, 6, 71, 0, 1,
                1, 2, 3, 1, 0, 99, 60, 0,
                1, 30, 99, 98,
                0, 9, 97, 96,
                x.part(0), x.part(1)));
    }

    private static void constants() {
        due("NONE", StoneHeld.NONE, -1);
        due("BAD", StoneHeld.BAD, -2);
        due("NO", StoneHeld.NO, -3);
        due("FULL", StoneHeld.FULL, -4);
    }

    /** Where nothing is changed, YEARS go beyond 999, and a self is light in every second one. */
    private static void beyond() {
        StoneHeld x = told("people;years 99;years 99;years 99;years 99;years 99;years 99;years 99;years 99;"
                + "years 99;years 99;years 99;");
        x.thing(4, 1);
        x.one(0, 1, 0);
        due("held at 999", x.owns(0, 0), 1);
        due("15 at 1000", x.weighs(0, 1), 1);
        due("17 left(1)", x.left(1), 1);
        due("17 left(2)", x.left(2), 0);
        due("18 when(0)", x.when(0), 2);
        due("19 lasts(0, 0)", x.lasts(0, 0), 1);
        due("20 match(2, -1)", x.match(2, NONE), 0);
        due("21 light(1)", x.light(1), 1);
        due("21 light(2)", x.light(2), NONE);
        due("35 centuries(0, 1)", x.centuries(0, 1), 1);
        due("35 centuries(0, 2)", x.centuries(0, 2), 0);
        x.shout(0, 2, 0);
        fraction(x, "34 two years", 0, 1);
        due("10 in truth none goes by", x.years(2), 1);
    }
}
