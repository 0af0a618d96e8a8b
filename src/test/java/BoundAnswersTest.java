/** What is asked without changing anything, at the bounds that the document names for each. */
public final class BoundAnswersTest extends Checks {
    public static void main(String[] args) {
        nothingIsChanged();
        beyondTheLastYear();
        agesAhead();
        heldOnes();
        leftOnes();
        whenLost();
        howLong();
        matchNumbers();
        matchMost();
        matchFirstWay();
        lightest();
        lightestOfNobody();
        byTwo();
        theKthPair();
        strengthsSeen();
        allSeenOfHim();
        whatToTry();
        kindsNoted();
        nextLook();
        kindsMarked();
        nextAsk();
        whatRests();
        shouts();
        shoutRefused();
        lowestTerms();
        centuriesBySeed();
        centuriesAhead();
        refusalsCounted();
        countsOfAll();
        end("answers at their bounds");
    }

    /** Seven plain ones who lift 2 each, and one stone. */
    private static StoneHeld seven(int weight) {
        StoneHeld x = new StoneHeld();
        for (int k = 0; k < 7; k++) {
            x.one(0, 1, 0);
        }
        x.thing(0, weight);
        return x;
    }

    private static void nothingIsChanged() {
        says("(Nothing is changed by these;");
        for (Maker maker : new Maker[] {Checks::some, Checks::most}) {
            unchanging(maker, "lifts", x -> x.lifts(2, 60) >= 0 ? 1 : 0, 1);
            unchanging(maker, "weighs", x -> x.weighs(2, 60) > 0 ? 1 : 0, 1);
            unchanging(maker, "held", x -> x.held() > 0 ? 1 : 0, 1);
            unchanging(maker, "left(0)", x -> x.left(0) > 0 ? 1 : 0, 1);
            unchanging(maker, "left(60)", x -> x.left(60) >= 0 ? 1 : 0, 1);
            unchanging(maker, "when", x -> x.when(0) >= NONE ? 1 : 0, 1);
            unchanging(maker, "lasts", x -> x.lasts(0, 1) >= 0 ? 1 : 0, 1);
            unchanging(maker, "match", x -> x.match(60, NONE) >= 0 ? 1 : 0, 1);
            unchanging(maker, "match", x -> x.match(1, 2) >= NONE ? 1 : 0, 1);
            unchanging(maker, "light", x -> x.light(1) >= NONE ? 1 : 0, 1);
            unchanging(maker, "two", x -> x.two(0, NONE) >= 0 ? 1 : 0, 1);
            unchanging(maker, "two, no such", x -> x.two(0, 21), -5);
            unchanging(maker, "strong", x -> x.strong(0, 0) >= 0 ? 1 : 0, 1);
            unchanging(maker, "tell", x -> x.tell(0) >= NONE ? 1 : 0, 1);
            unchanging(maker, "is", x -> x.is(0) >= 0 ? 1 : 0, 1);
            unchanging(maker, "look", x -> x.look(0) >= NONE ? 1 : 0, 1);
            unchanging(maker, "kinds", x -> x.kinds(0) >= 0 ? 1 : 0, 1);
            unchanging(maker, "ask", x -> x.ask(0) >= NONE ? 1 : 0, 1);
            unchanging(maker, "tries", x -> x.tries(0, 1, 0) > 0 ? 1 : 0, 1);
            unchanging(maker, "centuries", x -> x.centuries(999999, 60) >= 0 ? 1 : 0, 1);
            unchanging(maker, "of", x -> x.of(0, 4), 1);
            unchanging(maker, "about", x -> x.about(0, 1), 30);
            unchanging(maker, "part", x -> x.part(1) > 0 ? 1 : 0, 1);
            unchanging(maker, "status", x -> x.status(0) >= 0 ? 1 : 0, 1);
            unchanging(maker, "count", x -> x.count(9) > 0 ? 1 : 0, 1);
            unchanging(maker, "digest", x -> x.digest() == x.digest() ? 1 : 0, 1);
        }
    }

    private static void beyondTheLastYear() {
        says("YEARS go beyond 999 in them");
        StoneHeld x = inYear(999);
        x.thing(4, 1);
        x.thing(0, 3);
        x.one(0, 1, 0);
        x.one(0, 1, 0);
        due("a self in 999: 10", x.owns(0, 0), 1);
        due("a stone of 3", x.owns(1, 1), 1);
        due("held", x.held(), 3);
        due("a self in 1000: 1", x.weighs(0, 1), 1);
        due("a self in 1059: 10", x.weighs(0, 60), 10);
        due("left(1)", x.left(1), 3);
        due("left(2)", x.left(2), 2);
        due("left(3)", x.left(3), 2);
        due("left(4)", x.left(4), 0);
        due("when(0)", x.when(0), 2);
        due("when(1)", x.when(1), 4);
        due("lasts(0, 0)", x.lasts(0, 0), 1);
        due("lasts(0, 1)", x.lasts(0, 1), 3);
        due("match(1, NONE)", x.match(1, NONE), 2);
        due("match(2, NONE)", x.match(2, NONE), 1);
        due("light(1)", x.light(1), 4);
        due("light(2)", x.light(2), NONE);
        due("centuries(0, 1)", x.centuries(0, 1), 2);
        due("centuries(0, 2)", x.centuries(0, 2), 1);
        due("centuries(0, 4)", x.centuries(0, 4), 0);
        x.shout(0, 1, 0);
        due("behind a year", x.part(0), 1);
        x.shout(0, 2, 0);
        due("behind two", x.part(0), 0);
        due("but in truth none goes by", x.years(60), 2);
        StoneHeld y = inYear(990);
        y.thing(0, 3);
        y.one(0, 1, 0);
        y.owns(0, 0);
        due("left(3) at 990", y.left(3), 1);
        due("left(4) at 990", y.left(4), 0);
        StoneHeld z = inYear(998);
        z.thing(4, 1);
        z.one(0, 9, 0);
        due("even, odd, even", z.weighs(0, 0) * 100 + z.weighs(0, 1) * 10 + z.weighs(0, 2), 201);
    }

    private static void agesAhead() {
        says("LIFTS of one, WEIGHS of a THING, behind m (0 .. 60) YEARS");
        StoneHeld x = new StoneHeld();
        int[] ages = {35, 36, 38, 39, 40, 45, 99};
        for (int age : ages) {
            x.one(4, 1, age);
        }
        int[] due = {40, 20, 20, 20, 20, 20, 20};
        for (int i = 0; i < 7; i++) {
            due("wedded at " + ages[i] + ", behind 60", x.lifts(i, 60), due[i]);
        }
        says("AGES 99 at most");
        due("aged 45, behind 50", x.lifts(5, 50), 40);
        due("aged 45, behind 55", x.lifts(5, 55), 20);
        due("aged 45, behind 60", x.lifts(5, 60), 20);
        due("aged 99, behind 6", x.lifts(6, 6), 20);
        says("(LOST or not; one who is LOST is no older)");
        due("aged 35", x.lifts(0, 0), 40);
        due("aged 36", x.lifts(0, 1), 20);
        due("aged 45", x.lifts(0, 10), 40);
        due("all are lost", x.years(1), 0);
        for (int m = 0; m <= 60; m += 10) {
            due("lost at 35", x.lifts(0, m), 40);
            due("lost at 36", x.lifts(1, m), 20);
        }
        due("lost at 36", x.lifts(1, 9), 20);
    }

    private static void heldOnes() {
        says("HELD: PEOPLE (bits) HERE who are HELD now by what they OWN.");
        due("nobody", new StoneHeld().held(), 0);
        StoneHeld x = new StoneHeld();
        for (int k = 0; k < 7; k++) {
            x.one(0, 1, 0);
            x.thing(0, 3);
        }
        int bits = 0;
        for (int k = 6; k >= 0; k--) {
            due("held", x.held(), bits);
            x.owns(k, 6 - k);
            bits |= 1 << k;
        }
        due("all seven", x.held(), 127);
        x.years(3);
        due("they are three", x.held(), 0);
        due("and are here", x.count(1), 7);
        x.years(1);
        due("lost", x.held(), 0);
    }

    private static void leftOnes() {
        says("LEFT: PEOPLE (bits) HERE behind m (0 .. 60) YEARS.");
        due("nobody", new StoneHeld().left(0), 0);
        due("nobody", new StoneHeld().left(60), 0);
        StoneHeld x = new StoneHeld();
        for (int k = 0; k < 7; k++) {
            x.one(0, 1, 0);
            x.thing(0, k < 6 ? 2 + k : 30);
            x.owns(k, k);
        }
        // A stone of w holds them until they are three times w less 2, in years.
        int[] due = {127, 126, 126, 126, 124, 124, 124, 120};
        for (int m = 0; m < due.length; m++) {
            due("left(" + m + ")", x.left(m), due[m]);
        }
        due("left(15)", x.left(15), 96);
        due("left(16)", x.left(16), 64);
        due("left(60)", x.left(60), 64);
        due("left(-1)", x.left(-1), BAD);
        due("left(61)", x.left(61), BAD);
        x.years(60);
        due("the lost are not left", x.left(0), 64);
    }

    private static void whenLost() {
        says("WHEN: behind how many YEARS (1 .. 60) one who is HERE is LOST; none.");
        StoneHeld x = told("people;thing 0 3;thing 0 2;thing 3 11;one 0 1 0;one 0 1 0;one 0 1 0;one 4 1 0;years 1;");
        due("LOST already, too", x.when(0), NONE);
        x = inYear(190);
        x.thing(3, 11);
        x.thing(0, 2);
        x.thing(0, 3);
        x.thing(0, 12);
        x.thing(0, 13);
        x.one(4, 1, 0);
        x.one(0, 1, 0);
        x.one(0, 1, 0);
        x.one(0, 1, 0);
        x.one(0, 1, 0);
        x.one(0, 1, 0);
        due("owning nothing", x.when(5), 1);
        for (int k = 0; k < 5; k++) {
            x.owns(k, k);
        }
        due("aged 35 he lifts 40", x.when(0), 36);
        due("not held now", x.when(1), 1);
        due("at three", x.when(2), 4);
        due("at thirty", x.when(3), 31);
        due("never", x.when(4), NONE);
        due("not yet", x.left(35) & 1, 1);
        due("then", x.left(36) & 1, 0);
        due("years", x.years(35), 2);
        due("he is here", x.of(0, 4), 1);
        due("for the last", x.when(0), 1);
        due("years", x.years(1), 1);
        due("NONE (LOST already, too)", x.when(0), NONE);
        due("when(6), nobody", x.when(6), BAD);
        due("when(-1), nobody", x.when(-1), BAD);
    }

    private static void howLong() {
        says("LONG for one and a THING: for how many YEARS (0 .. 60)");
        StoneHeld x = inYear(190);
        x.thing(3, 11);
        x.thing(0, 2);
        x.thing(0, 3);
        x.thing(0, 12);
        x.thing(0, 13);
        x.one(4, 1, 0);
        x.one(0, 1, 0);
        due("the wall, the wedded one", x.lasts(0, 0), 35);
        due("lifts just so", x.lasts(1, 1), 0);
        due("three", x.lasts(1, 2), 3);
        due("thirty", x.lasts(1, 3), 30);
        due("sixty", x.lasts(1, 4), 60);
        says("one behind the other from this one on, it would HOLD him, did he OWN it");
        StoneHeld self = new StoneHeld();
        self.thing(4, 1);
        self.one(0, 1, 0);
        due("a self holds him in odd years alone: not now", self.lasts(0, 0), 0);
        self.owns(0, 0);
        due("owning it or not", self.lasts(0, 0), 0);
        StoneHeld y = some();
        due("another's", y.lasts(1, 0), 60);
        says("LONG. BAD; NO: he is LOST.");
        refused(Checks::some, "lasts(2, 0)", z -> z.lasts(2, 0), NO, AS_NO);
        refused(Checks::some, "lasts(2, 3)", z -> z.lasts(2, 3), BAD, AS_BAD);
        refused(Checks::some, "lasts(3, 0)", z -> z.lasts(3, 0), BAD, AS_BAD);
    }

    private static void matchNumbers() {
        says("MATCH: how many (i = NONE), which is one's (NONE; LOST, too). BAD: -10.");
        refused(Checks::some, "match(0, NONE)", x -> x.match(0, NONE), -10, AS_BAD);
        refused(Checks::some, "match(61, NONE)", x -> x.match(61, NONE), -10, AS_BAD);
        refused(Checks::some, "match(1, -2)", x -> x.match(1, -2), -10, AS_BAD);
        refused(Checks::some, "match(1, 3)", x -> x.match(1, 3), -10, AS_BAD);
        refused(StoneHeld::new, "match(1, 0)", x -> x.match(1, 0), -10, AS_BAD);
        due("nobody", new StoneHeld().match(1, NONE), 0);
        due("nobody", new StoneHeld().match(60, NONE), 0);
        StoneHeld x = some();
        due("those here", x.match(1, NONE), 2);
        due("the lost one", x.match(1, 2), NONE);
        due("both for 60", x.match(60, NONE), 2);
        due("the first for 60", x.match(60, 0), 0);
        due("the second for 60", x.match(60, 1), 2);
        x.years(1);
        x.leaves(0);
        x.years(1);
        due("nobody is here", x.match(1, NONE), 0);
        due("the lost one", x.match(1, 0), NONE);
        StoneHeld y = new StoneHeld();
        y.one(0, 1, 0);
        due("no things", y.match(1, NONE), 0);
        due("no things", y.match(1, 0), NONE);
        counted(y, "match", 0, 0, 0);
    }

    private static void matchMost() {
        says("so that most are HELD for m YEARS (LONG is m or more): how many");
        StoneHeld x = new StoneHeld();
        for (int k = 0; k < 7; k++) {
            x.one(0, 1, 0);
            x.thing(0, 3 + k);
        }
        // A stone of w holds one of them for three times w less 2 years.
        for (int m = 1; m <= 21; m++) {
            due("match(" + m + ", NONE)", x.match(m, NONE), 7 - (m - 1) / 3);
        }
        due("match(22, NONE)", x.match(22, NONE), 0);
        due("match(60, NONE)", x.match(60, NONE), 0);
        StoneHeld chain = new StoneHeld();
        for (int k = 0; k < 7; k++) {
            chain.one(0, k + 1, 0);
            chain.thing(0, 3 + 2 * k);
        }
        due("each needs his own", chain.match(1, NONE), 7);
        for (int k = 0; k < 7; k++) {
            due("the one that holds him", chain.match(1, k), k);
        }
        says("THINGS are given anew to those HERE, one to each at the most");
        StoneHeld one = seven(30);
        due("one thing", one.match(60, NONE), 1);
        one.owns(0, 0);
        due("whoever owns it", one.match(60, 0), NONE);
        due("the last one's", one.match(60, 6), 0);
        StoneHeld many = new StoneHeld();
        many.one(0, 1, 0);
        for (int t = 0; t < 7; t++) {
            many.thing(0, 30);
        }
        due("one of seven things", many.match(60, NONE), 1);
        due("the first", many.match(60, 0), 0);
    }

    private static void matchFirstWay() {
        says("in the first such way (PEOPLE by numbers; none (NONE) first, then THINGS rising)");
        StoneHeld x = new StoneHeld();
        for (int k = 0; k < 7; k++) {
            x.one(0, 1, 0);
        }
        x.thing(0, 2);
        x.thing(0, 3);
        x.thing(0, 3);
        x.thing(0, 2);
        int[] due = {NONE, NONE, NONE, NONE, NONE, 1, 2};
        for (int i = 0; i < 7; i++) {
            due("match(1, " + i + ")", x.match(1, i), due[i]);
        }
        StoneHeld y = new StoneHeld();
        y.one(0, 1, 0);
        y.one(0, 9, 0);
        y.thing(0, 30);
        y.thing(0, 3);
        due("both", y.match(1, NONE), 2);
        due("he leaves the first to the strong one", y.match(1, 0), 1);
        due("who needs it", y.match(1, 1), 0);
        due("for four none but the first: none first", y.match(4, 0), NONE);
        due("for four", y.match(4, 1), 0);
        StoneHeld z = told("people;thing 0 1;thing 0 1;thing 0 1;thing 0 30;thing 0 1;thing 0 20;thing 0 3;"
                + "one 0 9 0;one 0 1 0;one 0 9 30;");
        due("all three", z.match(1, NONE), 3);
        due("18: the heaviest is the last one's", z.match(1, 0), 5);
        due("2: what is left", z.match(1, 1), 6);
        due("28: by 30 alone", z.match(1, 2), 3);
    }

    private static void lightest() {
        says("LIGHT for m: the least WEIGHT (as told, not as it WEIGHS) of THINGS together");
        StoneHeld x = told("people;thing 3 2;thing 2 30;thing 0 7;one 0 1 0;");
        due("the wall: told as 2", x.light(1), 2);
        StoneHeld y = told("people;thing 2 8;thing 0 5;one 0 2 0;");
        due("the trunk of 8 weighs 4, and he lifts 4", y.light(1), 5);
        due("for three years", y.light(3), 5);
        due("for four none", y.light(4), NONE);
        says("by which all HERE are HELD for m YEARS, one each; none");
        StoneHeld z = new StoneHeld();
        for (int k = 0; k < 7; k++) {
            z.thing(0, 3 + k);
        }
        int sum = 0;
        for (int k = 0; k < 7; k++) {
            z.one(0, 1, 0);
            sum += 3 + k;
            due("for " + (k + 1), z.light(1), sum);
        }
        due("for four years not all", z.light(4), NONE);
        due("for sixty", z.light(60), NONE);
        StoneHeld w = seven(30);
        due("one thing for seven", w.light(1), NONE);
        w.owns(6, 0);
        w.years(1);
        due("one is here", w.light(60), 30);
        due("light(0)", w.light(0), BAD);
        due("light(61)", w.light(61), BAD);
        refused(Checks::some, "light(0)", v -> v.light(0), BAD, AS_BAD);
        refused(Checks::some, "light(61)", v -> v.light(61), BAD, AS_BAD);
    }

    private static void lightestOfNobody() {
        says("(nobody HERE: 0)");
        due("nobody is there", new StoneHeld().light(1), 0);
        StoneHeld x = new StoneHeld();
        x.thing(0, 1);
        due("a thing alone", x.light(60), 0);
        x.one(0, 1, 0);
        due("one, whom it does not hold", x.light(60), NONE);
        x.years(1);
        due("all are lost", x.light(60), 0);
    }

    private static void byTwo() {
        says("neither of whom LIFTS as much as it WEIGHS now, but both together do");
        int[] due = {0, 0, 21, 21, 0, 0};
        for (int weight = 1; weight <= 6; weight++) {
            due("seven who lift 2, " + weight, seven(weight).two(0, NONE), due[weight - 1]);
        }
        // They lift 2, 4 and 6: together 6, 8 and 10.
        int[] pairs = {0, 0, 0, 0, 1, 1, 2, 2, 1, 1, 0};
        for (int weight = 1; weight <= 11; weight++) {
            StoneHeld x = told("people;one 0 1 0;one 0 2 0;one 0 3 0;");
            x.thing(0, weight);
            due("2, 4, 6 at " + weight, x.two(0, NONE), pairs[weight - 1]);
        }
        // They lift 6, 4 and 2.
        for (int weight = 1; weight <= 11; weight++) {
            StoneHeld x = told("people;one 0 3 0;one 0 2 0;one 0 1 0;");
            x.thing(0, weight);
            due("6, 4, 2 at " + weight, x.two(0, NONE), pairs[weight - 1]);
        }
        // Aged 2 he lifts 2, aged 3 he lifts 3.
        int[] ages = {0, 0, 0, 1, 1, 0};
        for (int weight = 1; weight <= 6; weight++) {
            for (String text : new String[] {"people;one 0 1 2;one 0 1 3;", "people;one 0 1 3;one 0 1 2;"}) {
                StoneHeld x = told(text);
                x.thing(0, weight);
                due(text + " at " + weight, x.two(0, NONE), ages[weight - 1]);
            }
        }
        StoneHeld self = told("people;one 0 1 2;one 0 1 3;thing 4 8;");
        due("a self in an even year: 4", self.two(0, NONE), 1);
        StoneHeld odd = told("people;years 1;one 0 3 0;one 0 4 0;thing 4 8;");
        due("a self in an odd year: 13", odd.two(0, NONE), 1);
        says("(i less than j; HERE)");
        StoneHeld x = told("people;thing 0 30;thing 0 4;one 0 1 0;one 0 1 0;one 0 1 0;own 0 0;");
        due("three pairs", x.two(1, NONE), 3);
        due("its owner counts as well", x.two(0, NONE), 0);
        x.years(1);
        due("the lost do not", x.two(1, NONE), 0);
        due("no pair", x.two(1, 0), -5);
    }

    private static void theKthPair() {
        says("TWO: how many (k = NONE), the k-th. -5: not so many. BAD: -10.");
        StoneHeld x = seven(4);
        int k = 0;
        for (int i = 0; i < 7; i++) {
            for (int j = i + 1; j < 7; j++) {
                due("two(0, " + k + ")", x.two(0, k), 10 * i + j);
                k++;
            }
        }
        due("the 21st", x.two(0, 20), 56);
        due("no 22nd", x.two(0, 21), -5);
        due("far beyond", x.two(0, GREATEST), -5);
        due("how many", x.two(0, NONE), 21);
        counted(x, "-5 is none of these", 0, 0, 0);
        due("two(0, -2)", x.two(0, -2), -10);
        due("two(0, least)", x.two(0, LEAST), -10);
        due("two(1, 0)", x.two(1, 0), -10);
        due("two(-1, NONE)", x.two(-1, NONE), -10);
        due("two(1, NONE)", x.two(1, NONE), -10);
        counted(x, "-10 is BAD", 5, 0, 0);
        StoneHeld y = new StoneHeld();
        y.thing(0, 4);
        due("nobody", y.two(0, NONE), 0);
        due("nobody", y.two(0, 0), -5);
        y.one(0, 1, 0);
        due("one alone", y.two(0, NONE), 0);
        due("one alone", y.two(0, 0), -5);
    }

    private static void strengths(StoneHeld x, String what, int many, int least, int greatest) {
        due(what + ": how many", x.strong(0, 0), many);
        due(what + ": the least", x.strong(0, 1), least);
        due(what + ": the greatest", x.strong(0, 2), greatest);
    }

    private static void seenOnce(int kind, int age, int weight, int lifted, int[] due) {
        StoneHeld x = new StoneHeld();
        x.one(kind, 5, 50);
        x.seen(0, age, weight, lifted);
        strengths(x, "kind " + kind + " aged " + age + " at " + weight + ", lifted " + lifted, due[0], due[1], due[2]);
    }

    private static void strengthsSeen() {
        says("LIFTED it (1: LIFTS x or more) or not (0)");
        int[] all = {9, 1, 9};
        int[] none = {0, NONE, NONE};
        seenOnce(0, 0, 0, 1, all);
        seenOnce(0, 0, 0, 0, none);
        seenOnce(0, 0, 1, 1, all);
        seenOnce(0, 0, 1, 0, none);
        seenOnce(0, 0, 2, 1, all);
        seenOnce(0, 0, 2, 0, none);
        seenOnce(0, 0, 3, 0, new int[] {1, 1, 1});
        seenOnce(0, 0, 3, 1, new int[] {8, 2, 9});
        seenOnce(0, 0, 17, 1, new int[] {1, 9, 9});
        seenOnce(0, 0, 18, 1, new int[] {1, 9, 9});
        seenOnce(0, 0, 18, 0, new int[] {8, 1, 8});
        seenOnce(0, 0, 19, 1, none);
        seenOnce(0, 0, 19, 0, all);
        seenOnce(0, 99, 60, 0, all);
        seenOnce(0, 99, 60, 1, none);
        seenOnce(4, 95, 60, 1, new int[] {4, 6, 9});
        seenOnce(4, 95, 60, 0, new int[] {5, 1, 5});
        seenOnce(4, 99, 60, 1, none);
        seenOnce(3, 17, 1, 0, none);
        seenOnce(3, 0, 1, 0, new int[] {3, 1, 3});
        seenOnce(5, 99, 0, 1, all);
        seenOnce(5, 99, 1, 0, new int[] {2, 1, 2});
        says("STRONG: how many (0), the least (1), the greatest (2). NONE. BAD.");
        StoneHeld x = new StoneHeld();
        x.one(0, 5, 50);
        strengths(x, "nothing seen", 9, 1, 9);
        due("strong(0, 3)", x.strong(0, 3), BAD);
        due("strong(0, -1)", x.strong(0, -1), BAD);
        due("strong(1, 0)", x.strong(1, 0), BAD);
        due("strong(1, 1)", x.strong(1, 1), BAD);
    }

    private static void allSeenOfHim() {
        says("all SEEN of him are so");
        StoneHeld x = new StoneHeld();
        x.one(0, 1, 0);
        x.one(0, 1, 0);
        int[][] steps = {{3, 1}, {5, 1}, {17, 0}, {15, 0}, {9, 1}};
        int[][] due = {{8, 2, 9}, {7, 3, 9}, {6, 3, 8}, {5, 3, 7}, {3, 5, 7}};
        for (int k = 0; k < 5; k++) {
            due("seen", x.seen(0, 0, steps[k][0], steps[k][1]), k + 1);
            strengths(x, "behind " + (k + 1), due[k][0], due[k][1], due[k][2]);
            due("of the other one nothing", x.strong(1, 0), 9);
        }
        due("a sixth", x.seen(0, 0, 0, 0), FULL);
        strengths(x, "behind the sixth", 3, 5, 7);
        x.years(1);
        strengths(x, "of the lost one, too", 3, 5, 7);
        due("forget", x.forget(0), 5);
        strengths(x, "forgotten", 9, 1, 9);
    }

    private static void whatToTry() {
        says("TELL: 100 b and x .. by which, LIFTED or not, the greater part of these is least; of like ones the least");
        int[] due = {9, 17, 5, 3, 17, 5};
        for (int kind = 0; kind < 6; kind++) {
            StoneHeld x = new StoneHeld();
            x.one(kind, 1, 0);
            due("kind " + kind + ", all nine", x.tell(0), due[kind]);
        }
        StoneHeld two = new StoneHeld();
        two.one(0, 1, 0);
        two.seen(0, 0, 15, 1);
        due("8 and 9 lift 16 and 18", two.tell(0), 17);
        two.seen(0, 0, 17, 1);
        due("one STRENGTH: the least of all", two.tell(0), 0);
        says("none: no STRENGTH");
        two.seen(0, 0, 17, 0);
        due("no strength", two.tell(0), NONE);
        two.forget(0);
        due("all again", two.tell(0), 9);
        StoneHeld lad = new StoneHeld();
        lad.one(3, 1, 0);
        lad.seen(0, 0, 1, 0);
        due("lads of 1, 2, 3 lift 0 at 0, and 0, 1, 3 at 10", lad.tell(0), 101);
        lad.seen(0, 10, 1, 1);
        due("2 and 3", lad.tell(0), 102);
        lad.seen(0, 10, 2, 0);
        due("2 alone", lad.tell(0), 0);
        due("tell(1)", lad.tell(1), BAD);
        due("tell(-1)", lad.tell(-1), BAD);
    }

    private static void kindsNoted() {
        says("IS: KINDS (bits) by which all NOTES of one are so.");
        int[][] notes = {{1, 0, 1, 53}, {1, 1, 1, 37}, {1, 1, 10, 16}, {1, 0, 7, 10}, {1, 10, 8, 8}, {1, 10, 7, 2},
            {30, 99, 45, 8}, {30, 99, 24, 16}, {30, 98, 15, 20}, {30, 99, 15, 4}, {30, 0, 29, 32}, {29, 0, 29, 33},
            {1, 0, 0, 0}, {30, 99, 99, 0}, {6, 1, 12, 26}};
        for (int[] note : notes) {
            StoneHeld x = new StoneHeld();
            x.thing(5, 17);
            x.thing(5, 17);
            due("without any", x.is(0), 63);
            x.note(0, note[0], note[1], note[2]);
            due("noted " + note[0] + ", " + note[1] + ", " + note[2], x.is(0), note[3]);
            due("of the other one nothing", x.is(1), 63);
        }
        StoneHeld x = new StoneHeld();
        x.thing(0, 1);
        int[][] steps = {{1, 0, 1, 53}, {2, 0, 1, 52}, {2, 1, 1, 36}, {4, 0, 2, 4}, {4, 1, 2, 4}, {4, 1, 11, 0}};
        for (int[] step : steps) {
            x.note(0, step[0], step[1], step[2]);
            due("one behind the other", x.is(0), step[3]);
        }
        due("a seventh", x.note(0, 1, 0, 1), FULL);
        due("as it was", x.is(0), 0);
        due("is(1)", x.is(1), BAD);
        due("is(-1)", x.is(-1), BAD);
    }

    private static void nextLook() {
        says("LOOK: the YEAR y (0 .. 60) by which .. the most of these KINDS that WEIGH as much are fewest");
        int[] due = {1, 1, 0, 21, 0, 0, 0, 11, 0, 11, 0, 11, 0, 11, 0, 11, 0, 0, 0, 0, 0, 11, 0, 11, 0, 11, 0, 11, 0, 11};
        for (int weight = 1; weight <= 30; weight++) {
            StoneHeld x = new StoneHeld();
            x.thing(0, weight);
            due("all kinds, weight " + weight, x.look(0), due[weight - 1]);
        }
        StoneHeld x = new StoneHeld();
        x.thing(0, 30);
        x.note(0, 1, 0, 7);
        due("bell or wall part in year 10", x.look(0), 10);
        x.note(0, 1, 10, 8);
        due("one kind: the least", x.look(0), 0);
        says("none: no KIND");
        x.note(0, 1, 10, 9);
        due("no kind", x.look(0), NONE);
        x.forget(1);
        x.note(0, 3, 0, 2);
        due("trunk or self part in year 1", x.look(0), 1);
        due("look(1)", x.look(1), BAD);
        due("look(-1)", x.look(-1), BAD);
        StoneHeld after = new StoneHeld();
        for (int weight = 1; weight <= 7; weight++) {
            after.thing(0, weight);
            after.one(weight % 6, weight, 10 * weight);
        }
        for (int k = 0; k < 7; k++) {
            int told = after.tell(k);
            int asked = after.ask(k);
            for (int t = 0; t < 7; t++) {
                after.tell(k);
                due("look(" + t + ") behind tell(" + k + ")", after.look(t), due[t]);
                after.ask(k);
                due("look(" + t + ") behind ask(" + k + ")", after.look(t), due[t]);
            }
            due("tell(" + k + ") behind looks", after.tell(k), told);
            due("ask(" + k + ") behind looks", after.ask(k), asked);
        }
    }

    private static void kindsMarked() {
        says("WHAT: KINDS of PEOPLE (bits) by which all MARKS of one are so.");
        int[][] marks = {{1, 0, 2, 1}, {1, 5, 11, 2}, {1, 65, 6, 4}, {1, 0, 0, 8}, {1, 18, 8, 9}, {1, 5, 22, 16},
            {1, 0, 10, 18}, {1, 65, 5, 32}, {1, 0, 1, 36}, {3, 15, 5, 44}, {9, 99, 28, 9}, {9, 95, 72, 16},
            {9, 99, 36, 18}, {9, 99, 14, 4}, {9, 99, 7, 32}, {1, 99, 0, 32}, {9, 99, 99, 0}, {9, 0, 0, 0}};
        for (int[] mark : marks) {
            StoneHeld x = new StoneHeld();
            x.one(5, 7, 77);
            x.one(5, 7, 77);
            due("without any", x.kinds(0), 63);
            x.mark(0, mark[0], mark[1], mark[2]);
            due("marked " + mark[0] + ", " + mark[1] + ", " + mark[2], x.kinds(0), mark[3]);
            due("of the other one nothing", x.kinds(1), 63);
        }
        StoneHeld x = new StoneHeld();
        x.one(0, 1, 0);
        int[][] steps = {{3, 15, 5, 44}, {1, 0, 1, 36}, {1, 64, 6, 36}, {2, 0, 2, 36}, {1, 65, 6, 4}, {1, 65, 5, 0}};
        for (int[] step : steps) {
            x.mark(0, step[0], step[1], step[2]);
            due("one behind the other", x.kinds(0), step[3]);
        }
        due("a seventh", x.mark(0, 1, 0, 1), FULL);
        due("as it was", x.kinds(0), 0);
        due("kinds(1)", x.kinds(1), BAD);
        due("kinds(-1)", x.kinds(-1), BAD);
    }

    private static void nextAsk() {
        says("ASK: the AGE a (0 .. 99) by which .. the most of these KINDS that LIFT as much are fewest");
        int[] due = {0, 0, 0, 0, 0, 3, 0, 0, 0};
        for (int strength = 1; strength <= 9; strength++) {
            StoneHeld x = new StoneHeld();
            x.one(0, strength, 50);
            due("all kinds, strength " + strength, x.ask(0), due[strength - 1]);
            x.mark(0, 1, 0, 10);
            due("smith or wedded part at 5", x.ask(0), 5);
            x.forget(2);
            x.mark(0, 1, 0, 1);
            due("weak or old part at 65", x.ask(0), 65);
            x.forget(2);
            x.mark(0, 1, 18, 8);
            due("plain or lad part at 0", x.ask(0), 0);
            x.mark(0, 1, 18, 9);
            due("none: no KIND", x.ask(0), NONE);
        }
        StoneHeld x = new StoneHeld();
        due("ask(0)", x.ask(0), BAD);
        due("ask(-1)", x.ask(-1), BAD);
    }

    private static void rests(int first, int second, int weight, int due) {
        StoneHeld x = new StoneHeld();
        x.one(0, first, 0);
        x.one(0, second, 0);
        x.thing(0, weight);
        due("who lift " + 2 * first + ", " + 2 * second + " at " + weight, x.tries(0, 1, 0), due);
        due("who lift " + 2 * second + ", " + 2 * first + " at " + weight, x.tries(1, 0, 0), due);
        x.years(1);
        due("the lost, too", x.tries(0, 1, 0), due);
    }

    private static void whatRests() {
        says("who tries alone gets 5, if he LIFTS it, else -2; both: each 3, if together they LIFT it, else -3");
        rests(1, 2, 1, 8);
        rests(1, 2, 2, 8);
        rests(1, 2, 3, 8);
        rests(1, 2, 4, 8);
        rests(1, 2, 5, 9);
        rests(1, 2, 6, 9);
        rests(1, 2, 7, 1);
        rests(9, 5, 28, 9);
        rests(9, 5, 29, 1);
        rests(9, 9, 18, 8);
        rests(9, 9, 19, 9);
        rests(9, 9, 30, 9);
        StoneHeld none = new StoneHeld();
        none.one(3, 1, 0);
        none.one(3, 1, 0);
        none.one(2, 1, 0);
        none.thing(0, 1);
        due("who lift 0", none.tries(0, 1, 0), 1);
        due("0 and 1", none.tries(0, 2, 0), 8);
        says("TRY, as bits. BAD: alike a, b, too.");
        refused(Checks::some, "tries(0, 0, 0)", x -> x.tries(0, 0, 0), BAD, AS_BAD);
        refused(Checks::some, "tries(2, 2, 2)", x -> x.tries(2, 2, 2), BAD, AS_BAD);
        refused(Checks::some, "tries(0, 1, 3)", x -> x.tries(0, 1, 3), BAD, AS_BAD);
        refused(Checks::some, "tries(3, 1, 0)", x -> x.tries(3, 1, 0), BAD, AS_BAD);
        refused(Checks::some, "tries(0, 3, 0)", x -> x.tries(0, 3, 0), BAD, AS_BAD);
        says("as they LIFT, as it WEIGHS now");
        StoneHeld self = told("people;one 0 1 0;one 0 2 0;thing 4 1;");
        due("1 in an even year", self.tries(0, 1, 0), 8);
        self.years(1);
        due("10 in an odd one", self.tries(0, 1, 0), 1);
        // Aged 2 he lifts 2, aged 3 he lifts 3; the lad lifts nothing.
        StoneHeld ages = told("people;one 0 1 2;one 0 1 3;one 3 1 0;thing 0 3;thing 0 2;thing 0 5;thing 0 6;");
        due("2 and nothing at 3", ages.tries(0, 2, 0), 1);
        due("nothing and 2 at 3", ages.tries(2, 0, 0), 1);
        due("3 and nothing at 3", ages.tries(1, 2, 0), 8);
        due("nothing and 3 at 3", ages.tries(2, 1, 0), 8);
        due("2 and 3 at 5", ages.tries(0, 1, 2), 9);
        due("2 and 3 at 6", ages.tries(0, 1, 3), 1);
    }

    private static void chance(int weight, int n, int c, long above, long below) {
        StoneHeld x = new StoneHeld();
        x.one(0, 1, 0);
        x.thing(0, weight);
        x.owns(0, 0);
        String what = "who lifts 2, 3 from three on, by " + weight + " for " + n + ", " + c + " of 10";
        due(what, x.shout(0, n, c), 1);
        due(what + ": above", x.part(0), above);
        due(what + ": below", x.part(1), below);
    }

    private static void shouts() {
        says("SHOUT: by c of 10 (0 .. 10) one LIFTS 5 more in a YEAR, each apart");
        chance(1, 0, 0, 1, 1);
        chance(1, 0, 10, 1, 1);
        chance(2, 1, 0, 0, 1);
        chance(3, 1, 0, 1, 1);
        chance(3, 1, 10, 0, 1);
        chance(3, 3, 0, 1, 1);
        chance(3, 4, 0, 0, 1);
        chance(3, 3, 5, 1, 8);
        chance(7, 1, 0, 1, 1);
        chance(7, 1, 1, 9, 10);
        chance(7, 1, 9, 1, 10);
        chance(7, 1, 10, 0, 1);
        chance(7, 6, 1, 531441, 1000000);
        chance(7, 6, 9, 1, 1000000);
        chance(7, 6, 10, 0, 1);
        chance(8, 3, 10, 1, 1);
        chance(8, 4, 10, 0, 1);
        chance(8, 4, 3, 7, 10);
        chance(8, 6, 3, 343, 1000);
        chance(9, 6, 10, 1, 1);
        says("the chance that one who is HERE, OWNING what he does, is HERE yet behind n (0 .. 6) YEARS");
        StoneHeld x = new StoneHeld();
        x.one(0, 1, 0);
        due("owning nothing, no years", x.shout(0, 0, 10), 1);
        due("above", x.part(0), 1);
        due("below", x.part(1), 1);
        due("owning nothing, a year", x.shout(0, 1, 0), 1);
        due("above", x.part(0), 0);
        due("below", x.part(1), 1);
        due("owning nothing, six", x.shout(0, 6, 10), 1);
        due("above", x.part(0), 0);
        StoneHeld wedded = told("people;thing 0 30;one 4 1 94;own 0 0;");
        wedded.shout(0, 1, 10);
        due("at 94 he lifts 20, with a shout 25", wedded.part(0), 1);
        wedded.shout(0, 2, 0);
        due("at 95 he lifts 40", wedded.part(0), 0);
        StoneHeld late = told("people;thing 0 30;one 4 1 99;own 0 0;");
        late.shout(0, 6, 10);
        due("99 at most", late.part(0), 1);
    }

    private static void shoutRefused() {
        says("SHOUT is THE FRACTION: 1. BAD; NO: he is LOST.");
        refused(Checks::some, "shout(2, 0, 0)", x -> x.shout(2, 0, 0), NO, AS_NO);
        refused(Checks::some, "shout(2, 6, 10)", x -> x.shout(2, 6, 10), NO, AS_NO);
        refused(Checks::some, "shout(2, 7, 0)", x -> x.shout(2, 7, 0), BAD, AS_BAD);
        refused(Checks::some, "shout(2, 0, 11)", x -> x.shout(2, 0, 11), BAD, AS_BAD);
        refused(Checks::some, "shout(0, 7, 0)", x -> x.shout(0, 7, 0), BAD, AS_BAD);
        refused(Checks::some, "shout(0, -1, 0)", x -> x.shout(0, -1, 0), BAD, AS_BAD);
        refused(Checks::some, "shout(0, 0, 11)", x -> x.shout(0, 0, 11), BAD, AS_BAD);
        refused(Checks::some, "shout(0, 0, -1)", x -> x.shout(0, 0, -1), BAD, AS_BAD);
        refused(Checks::some, "shout(3, 0, 0)", x -> x.shout(3, 0, 0), BAD, AS_BAD);
        StoneHeld x = some();
        long before = x.digest();
        due("the fraction", x.part(0) * 100 + x.part(1), 710);
        due("shout(0, 6, 10)", x.shout(0, 6, 10), 1);
        due("another", x.part(0) * 100 + x.part(1), 101);
        holds("the digest has it", x.digest() != before);
        due("nothing else", x.count(8), 4);
    }

    private static void lowestTerms() {
        says("lowest terms, below above 0");
        long[][] due = {{1, 1}, {9, 10}, {4, 5}, {7, 10}, {3, 5}, {1, 2}, {2, 5}, {3, 10}, {1, 5}, {1, 10}, {0, 1}};
        for (int c = 0; c <= 10; c++) {
            chance(7, 1, c, due[c][0], due[c][1]);
        }
        chance(7, 2, 4, 9, 25);
        chance(7, 6, 5, 1, 64);
        chance(7, 6, 8, 1, 15625);
        chance(7, 6, 2, 4096, 15625);
        chance(7, 6, 3, 117649, 1000000);
        says("THE FRACTION: above (0), below (1). BAD.");
        for (int what : new int[] {LEAST, -1, 2, GREATEST}) {
            refused(Checks::some, "part(" + what + ")", x -> x.part(what), BAD, AS_BAD);
        }
    }

    /** Only that one can be held, and only by that thing. */
    private static StoneHeld onlyFor(int one, int thing, int people, int things) {
        StoneHeld x = new StoneHeld();
        for (int i = 0; i < people; i++) {
            x.one(0, i == one ? 1 : 9, i == one ? 0 : 99);
        }
        for (int t = 0; t < things; t++) {
            x.thing(0, t == thing ? 28 : 1);
        }
        return x;
    }

    private static void centuriesBySeed() {
        says("CENTURIES by a SEED (0 .. 999999)");
        // The first X of a seed, and whom and what it names: worked out apart from the program.
        // From 241 on they are such whose X lies just at a whole number of 65536 or of 1048576.
        int[][] seeds = {{0, 0, 0}, {1, 3, 2}, {2, 5, 0}, {52, 6, 6}, {70, 0, 6}, {72, 6, 0}, {999998, 6, 2},
            {999999, 2, 4}, {241, 2, 1}, {959, 4, 5}, {42627, 1, 5}, {47902, 2, 5}};
        for (int[] seed : seeds) {
            String what = "seed " + seed[0];
            for (int i = 0; i < 7; i++) {
                for (int t = 0; t < 7; t++) {
                    int due = i == seed[1] && t == seed[2] ? 1 : 0;
                    due(what + ", " + i + " by " + t, onlyFor(i, t, 7, 7).centuries(seed[0], 1), due);
                }
            }
            StoneHeld x = onlyFor(seed[1], seed[2], 7, 7);
            due(what + ", no years", x.centuries(seed[0], 0), 7);
            due(what + ", sixty", x.centuries(seed[0], 60), 1);
            says("who is there, HERE and OWNS nothing, gets THING .. if it is there and nobody's");
            due(what + ", one is not there", onlyFor(seed[1], seed[2], seed[1], 7).centuries(seed[0], 1), 0);
            due(what + ", one is there", onlyFor(seed[1], seed[2], seed[1] + 1, 7).centuries(seed[0], 1), 1);
            due(what + ", it is not there", onlyFor(seed[1], seed[2], 7, seed[2]).centuries(seed[0], 1), 0);
            due(what + ", it is there", onlyFor(seed[1], seed[2], 7, seed[2] + 1).centuries(seed[0], 1), 1);
            int other = seed[2] == 0 ? 1 : 0;
            x.owns(seed[1], other);
            due(what + ", he owns something", x.centuries(seed[0], 1), 0);
            x.leaves(seed[1]);
            x.owns(seed[1] == 0 ? 1 : 0, seed[2]);
            due(what + ", it is another's", x.centuries(seed[0], 1), 0);
        }
        due("nobody", new StoneHeld().centuries(999999, 60), 0);
        says("CENTURIES. BAD.");
        refused(Checks::some, "centuries(-1, 0)", x -> x.centuries(-1, 0), BAD, AS_BAD);
        refused(Checks::some, "centuries(1000000, 0)", x -> x.centuries(1000000, 0), BAD, AS_BAD);
        refused(Checks::some, "centuries(0, -1)", x -> x.centuries(0, -1), BAD, AS_BAD);
        refused(Checks::some, "centuries(0, 61)", x -> x.centuries(0, 61), BAD, AS_BAD);
    }

    private static void centuriesAhead() {
        says("n (0 .. 60) YEARS .. how many are HERE behind them");
        StoneHeld x = new StoneHeld();
        for (int k = 0; k < 7; k++) {
            x.one(0, 1, 0);
            x.thing(0, k < 6 ? 3 + k : 30);
            x.owns(k, k);
        }
        due("none", x.centuries(5, 0), 7);
        due("three", x.centuries(5, 3), 7);
        due("four", x.centuries(5, 4), 6);
        due("eighteen", x.centuries(5, 18), 2);
        due("nineteen", x.centuries(5, 19), 1);
        due("sixty", x.centuries(5, 60), 1);
        x.years(19);
        due("the lost get nothing", x.centuries(0, 1), 1);
    }

    private static void refusalsCounted() {
        says("STATUS: BAD (0), NO (1), FULL (2). -1: another what (counts as BAD).");
        StoneHeld x = new StoneHeld();
        counted(x, "at first", 0, 0, 0);
        int bad = 0;
        for (int what : new int[] {3, -1, LEAST, GREATEST}) {
            due("status(" + what + ")", x.status(what), -1);
            bad++;
            counted(x, "status(" + what + ")", bad, 0, 0);
        }
        says("(each answer told so below is such a one)");
        due("match", x.match(0, 0), -10);
        due("two", x.two(0, 0), -10);
        due("part", x.part(2), BAD);
        due("count", x.count(10), BAD);
        counted(x, "as BAD", bad + 4, 0, 0);
        due("undo", x.undo(), NO);
        due("from", x.from(1), NO);
        counted(x, "as NO", bad + 4, 2, 0);
        due("read", x.read(), -10);
        x.one(0, 1, 0);
        x.thing(0, 30);
        due("two", x.two(0, 0), -5);
        due("light", x.light(1), 30);
        due("when", x.when(0), 1);
        due("match", x.match(1, 0), 0);
        x.seen(0, 0, 0, 0);
        due("strong", x.strong(0, 1), NONE);
        due("tell", x.tell(0), NONE);
        x.mark(0, 1, 0, 99);
        due("ask", x.ask(0), NONE);
        x.note(0, 1, 0, 99);
        due("look", x.look(0), NONE);
        due("of", x.of(0, 3), NONE);
        due("about", x.about(0, 2), NONE);
        x.years(1);
        due("when", x.when(0), NONE);
        due("match", x.match(1, 0), NONE);
        counted(x, "NONE, -5 and a fault are no refusals", bad + 4, 2, 0);
        x.people();
        x.image(0);
        x.from(0);
        counted(x, "it stays", bad + 4, 2, 0);
    }

    private static void countsOfAll() {
        says("How many: 0 PEOPLE, 1 HERE, 2 THINGS, 3 owned, 4 the YEAR, 5 SEEN, 6 NOTES, 7 MARKS, 8 that may be undone");
        int[] some = {3, 2, 3, 1, 1, 2, 1, 3, 4, 43};
        int[] most = {7, 7, 7, 7, 0, 5, 6, 6, 8, 150};
        StoneHeld x = some();
        StoneHeld y = most();
        for (int what = 0; what <= 9; what++) {
            due("some: count(" + what + ")", x.count(what), some[what]);
            due("most: count(" + what + ")", y.count(what), most[what]);
        }
        for (int what : new int[] {LEAST, -1, 10, GREATEST}) {
            refused(Checks::some, "count(" + what + ")", z -> z.count(what), BAD, AS_BAD);
        }
        says("h = 1759; then h = 31 h + v for each v");
        due("digest", x.digest(), mix(3, 2, 3, 1, 1, 2, 1, 3, 4, 43, 0, 30, 4, 6, 0, 16,
                0, 1, 1, 0, 1, 0, 2, 41, -1, 1, 3, 9, 5, -1, 0,
                0, 5, 6, 1, 1, 6, 7, 0, 2, 3, 4, 5, 2, 3, 4, 5, 1, 2, 3, 4, 0, 1, 2, 3, 7, 10));
        due("digest of the next", new StoneHeld().digest(), mix(0, 0, 0, 0, 0, 0, 0, 0, 0, 0, 0, 1));
    }
}
