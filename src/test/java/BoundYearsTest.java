/** THINGS, PEOPLE, who OWNS what, YEARS, UNDO and IMAGES, where they begin and where they end. */
public final class BoundYearsTest extends Checks {
    public static void main(String[] args) {
        nobodyThere();
        asTheyCome();
        ownsNothingAtFirst();
        peopleAgain();
        peopleKeepTheRest();
        givingRefused();
        ownedByOneAtMost();
        leavingRefused();
        lostAtAYear();
        lostForGood();
        olderByOne();
        ninetyNineAtMost();
        oneToSixtyYears();
        lastYear();
        atTheLastYearNone();
        nothingToUndo();
        eightAtMost();
        afterTheEighth();
        noneBehindAComing();
        refusedOnesKeepUndo();
        whatUndoBringsBack();
        whatUndoLeaves();
        imageNumbers();
        imagesApart();
        imagesOfTheEmptyAndTheFull();
        imagesOfOtherRows();
        imagesKeepWhatMayBeUndone();
        imagesLeaveTheRest();
        rowsFull();
        lastCall();
        end("years at their bounds");
    }

    /** Those many lads of strength 1, each with a stone that holds him for good. */
    private static StoneHeld held(int many) {
        StoneHeld x = new StoneHeld();
        for (int k = 0; k < many; k++) {
            x.thing(0, 30);
            x.one(0, 1, 0);
        }
        for (int k = 0; k < many; k++) {
            x.owns(k, k);
        }
        return x;
    }

    private static void nobodyThere() {
        says("As told; nobody is there.");
        StoneHeld x = new StoneHeld();
        for (int what = 0; what <= 9; what++) {
            due("count(" + what + ")", x.count(what), 0);
        }
        due("digest()", x.digest(), mix(0, 0, 0, 0, 0, 0, 0, 0, 0, 0, 0, 1));
        says("THE FRACTION is 0 by 1 at first");
        due("part(0)", x.part(0), 0);
        due("part(1)", x.part(1), 1);
        counted(x, "at first", 0, 0, 0);
        due("no image", x.from(0), NO);
        due("no image", x.from(1), NO);
        due("years", x.years(60), 0);
        due("the year", x.count(4), 60);
    }

    private static void asTheyCome() {
        says("A THING: its number. BAD; FULL: 7.");
        StoneHeld x = new StoneHeld();
        for (int t = 0; t < 7; t++) {
            due("about one not there yet", x.about(t, 0), BAD);
            due("thing", x.thing(5 - t % 6, 30 - t), t);
            due("how many", x.count(2), t + 1);
        }
        due("the 8th", x.thing(0, 1), FULL);
        due("the 8th once more", x.thing(5, 30), FULL);
        due("seven", x.count(2), 7);
        for (int t = 0; t < 7; t++) {
            due("kind", x.about(t, 0), 5 - t % 6);
            due("weight", x.about(t, 1), 30 - t);
        }
        counted(x, "things", 7, 0, 2);
        says("One comes: the number. BAD; FULL: 7.");
        for (int i = 0; i < 7; i++) {
            due("of one not there yet", x.of(i, 0), BAD);
            due("one", x.one(5 - i % 6, 9 - i, 99 - i), i);
            due("how many", x.count(0), i + 1);
            due("how many are here", x.count(1), i + 1);
        }
        due("the 8th", x.one(0, 1, 0), FULL);
        due("the 8th once more", x.one(5, 9, 99), FULL);
        for (int i = 0; i < 7; i++) {
            due("kind", x.of(i, 0), 5 - i % 6);
            due("strength", x.of(i, 1), 9 - i);
            due("age", x.of(i, 2), 99 - i);
        }
        counted(x, "ones", 14, 0, 4);
        due("all are lost", x.years(1), 0);
        due("the lost are there yet", x.one(0, 1, 0), FULL);
        due("seven", x.count(0), 7);
    }

    private static void ownsNothingAtFirst() {
        says("each OWNS nothing at first, or one THING .. HERE at first, or LOST");
        StoneHeld x = held(6);
        x.people();
        for (int k = 0; k < 7; k++) {
            due("thing", x.thing(0, 30), k);
            due("nobody's", x.about(k, 2), NONE);
            due("one", x.one(0, 1, 0), k);
            due("owns nothing", x.of(k, 3), NONE);
            due("here", x.of(k, 4), 1);
        }
        due("owned", x.count(3), 0);
        due("held", x.held(), 0);
    }

    private static void peopleAgain() {
        says("All as at first (but for IMAGES, THE TEXT, THE FRACTION, STATUS): how many PEOPLE there were.");
        StoneHeld x = new StoneHeld();
        due("nobody", x.people(), 0);
        x.one(0, 1, 0);
        due("one", x.people(), 1);
        due("nobody", x.people(), 0);
        StoneHeld y = most();
        y.years(1);
        due("seven, lost ones too", y.people(), 7);
        due("nobody", y.digest(), mix(0, 0, 0, 0, 0, 0, 0, 0, 0, 150, 0, 1));
        due("nothing to undo", y.undo(), NO);
        due("is not there", y.of(0, 0), BAD);
        due("is not there", y.about(0, 0), BAD);
        due("the first one", y.one(0, 1, 0), 0);
        due("the first thing", y.thing(0, 3), 0);
        due("nothing seen of him", y.strong(0, 0), 9);
        due("no marks of him", y.kinds(0), 63);
        due("no notes of it", y.is(0), 63);
        due("seen", y.seen(0, 0, 0, 1), 1);
        due("note", y.note(0, 1, 0, 1), 1);
        due("mark", y.mark(0, 1, 0, 1), 1);
        due("the year", y.count(4), 0);
    }

    private static void peopleKeepTheRest() {
        says("(but for IMAGES, THE TEXT, THE FRACTION, STATUS)");
        StoneHeld x = some();
        due("three", x.people(), 3);
        due("the text", x.count(9), 43);
        due("above", x.part(0), 7);
        due("below", x.part(1), 10);
        counted(x, "people", 1, 1, 1);
        due("an image", x.from(0), 1);
        due("six", x.count(0), 6);
        due("an image", x.from(1), 1);
        due("three", x.people(), 3);
        due("the text is read", x.read(), 5);
    }

    private static void givingRefused() {
        says("One OWNS a THING: 1 he is HELD by it now, 0. BAD; NO: he is LOST, OWNS something, it is owned.");
        refused(Checks::some, "owns(2, 1), he is lost", x -> x.owns(2, 1), NO, AS_NO);
        refused(Checks::some, "owns(0, 1), he owns something", x -> x.owns(0, 1), NO, AS_NO);
        refused(Checks::some, "owns(0, 0), he owns just this", x -> x.owns(0, 0), NO, AS_NO);
        refused(Checks::some, "owns(1, 0), it is owned", x -> x.owns(1, 0), NO, AS_NO);
        refused(Checks::some, "owns(2, 0), lost and owned", x -> x.owns(2, 0), NO, AS_NO);
        refused(Checks::some, "owns(3, 1), nobody", x -> x.owns(3, 1), BAD, AS_BAD);
        refused(Checks::some, "owns(1, 3), nothing", x -> x.owns(1, 3), BAD, AS_BAD);
        refused(Checks::some, "owns(2, 3), lost, but bad comes first", x -> x.owns(2, 3), BAD, AS_BAD);
        refused(Checks::some, "owns(0, -1), owns, but bad comes first", x -> x.owns(0, -1), BAD, AS_BAD);
        refused(Checks::some, "owns(-1, 0), owned, but bad comes first", x -> x.owns(-1, 0), BAD, AS_BAD);
        StoneHeld x = some();
        due("a self of 6 in year 1 weighs 12, he lifts 14", x.owns(1, 1), 0);
        due("it is his", x.of(1, 3), 1);
        due("he is its owner", x.about(1, 2), 1);
        due("one more may be undone", x.count(8), 5);
        due("he leaves it", x.leaves(1), 1);
        due("16 holds who lifts 14", x.owns(1, 2), 1);
        counted(x, "owns", 1, 1, 1);
    }

    private static void ownedByOneAtMost() {
        says("(a THING is owned by one at most)");
        StoneHeld x = held(7);
        due("owned", x.count(3), 7);
        for (int t = 0; t < 7; t++) {
            due("owner", x.about(t, 2), t);
            due("nobody else may", x.owns(6 - t, t), NO);
        }
        due("leaves", x.leaves(6), 6);
        due("nor now", x.owns(6, 0), NO);
        due("owned", x.count(3), 6);
        due("but this again", x.owns(6, 6), 1);
        due("leaves", x.leaves(0), 0);
        due("leaves", x.leaves(6), 6);
        due("another's", x.owns(6, 0), 1);
        due("owner", x.about(0, 2), 6);
        due("owner", x.about(6, 2), NONE);
    }

    private static void leavingRefused() {
        says("One leaves what he OWNS: which it was. BAD; NO: he OWNS nothing.");
        refused(Checks::some, "leaves(1)", x -> x.leaves(1), NO, AS_NO);
        refused(Checks::some, "leaves(2), he is lost", x -> x.leaves(2), NO, AS_NO);
        refused(Checks::some, "leaves(3), nobody", x -> x.leaves(3), BAD, AS_BAD);
        refused(Checks::some, "leaves(-1), nobody", x -> x.leaves(-1), BAD, AS_BAD);
        refused(StoneHeld::new, "leaves(0), nobody", x -> x.leaves(0), BAD, AS_BAD);
        StoneHeld x = held(7);
        for (int i = 6; i >= 0; i--) {
            due("leaves", x.leaves(i), i);
            due("owns nothing", x.of(i, 3), NONE);
            due("nobody's", x.about(i, 2), NONE);
            due("again", x.leaves(i), NO);
        }
        due("owned", x.count(3), 0);
        due("he is here yet", x.count(1), 7);
    }

    private static void lostAtAYear() {
        says("A YEAR: who is HERE and OWNS nothing, or is not HELD by what he OWNS, is LOST");
        StoneHeld x = told("people;thing 0 1;thing 0 2;thing 0 3;one 0 1 0;one 0 1 0;one 0 1 0;one 0 1 0;"
                + "own 0 0;own 1 1;own 2 2;");
        due("held", x.held(), 4);
        due("years(1)", x.years(1), 1);
        int[] here = {0, 0, 1, 0};
        int[] age = {0, 0, 1, 0};
        int[] owned = {NONE, NONE, 2, NONE};
        for (int i = 0; i < 4; i++) {
            due("here " + i, x.of(i, 4), here[i]);
            due("age " + i, x.of(i, 2), age[i]);
            due("owned " + i, x.of(i, 3), owned[i]);
        }
        due("people", x.count(0), 4);
        due("here", x.count(1), 1);
        says("(for good; what he owned is nobody's then)");
        due("nobody's", x.about(0, 2), NONE);
        due("nobody's", x.about(1, 2), NONE);
        due("owned", x.count(3), 1);
        says("who .. is not HELD by what he OWNS, is LOST .. the others who are HERE are 1 older");
        due("at 1 and 2 he lifts 2", x.years(2), 1);
        due("at 3 he lifts 3", x.held(), 0);
        due("but he is here", x.of(2, 4), 1);
        due("and may leave it", x.leaves(2), 2);
        due("undone", x.undo(), 3);
        due("a year more", x.years(1), 0);
        due("he was 3", x.of(2, 2), 3);
        StoneHeld self = told("people;thing 4 3;one 0 1 0;years 1;one 0 1 0;own 1 0;");
        due("an odd year: 11", self.years(1), 1);
        due("an even year: 2", self.years(1), 0);
        StoneHeld even = told("people;thing 4 3;one 0 1 0;own 0 0;");
        due("an even year: 2", even.years(1), 0);
    }

    private static void lostForGood() {
        says("is LOST (for good");
        StoneHeld x = told("people;thing 0 2;thing 0 30;one 0 1 0;one 0 1 0;own 0 0;own 1 1;");
        x.years(1);
        for (int k = 0; k < 3; k++) {
            due("a year more", x.years(20), 1);
            due("he is lost", x.of(0, 4), 0);
            due("he is no older", x.of(0, 2), 0);
            due("he may own nothing", x.owns(0, 0), NO);
            due("he lifts as he did", x.lifts(0, 60), 2);
        }
        due("the other one", x.of(1, 2), 61);
        due("what he owned another may", x.leaves(1), 1);
        due("own", x.owns(1, 0), 0);
    }

    private static void olderByOne() {
        says("the others who are HERE are 1 older");
        StoneHeld x = held(7);
        due("all stay", x.years(1), 7);
        for (int i = 0; i < 7; i++) {
            due("aged", x.of(i, 2), 1);
        }
        due("all stay", x.years(2), 7);
        for (int i = 0; i < 7; i++) {
            due("aged", x.of(i, 2), 3);
        }
    }

    private static void ninetyNineAtMost() {
        says("1 older (99 at most)");
        StoneHeld x = told("people;thing 0 30;thing 0 30;thing 0 30;one 0 1 97;one 0 1 98;one 0 1 99;"
                + "own 0 0;own 1 1;own 2 2;");
        int[][] ages = {{98, 99, 99}, {99, 99, 99}, {99, 99, 99}};
        for (int[] row : ages) {
            due("years(1)", x.years(1), 3);
            for (int i = 0; i < 3; i++) {
                due("aged", x.of(i, 2), row[i]);
            }
        }
        StoneHeld wedded = told("people;thing 0 30;one 4 1 96;own 0 0;");
        due("a wedded one comes to no 105", wedded.years(60), 1);
        due("aged", wedded.of(0, 2), 99);
    }

    private static void oneToSixtyYears() {
        says("n YEARS go by (1 .. 60; together one that may be undone");
        refused(Checks::some, "years(0)", x -> x.years(0), BAD, AS_BAD);
        refused(Checks::some, "years(61)", x -> x.years(61), BAD, AS_BAD);
        refused(Checks::some, "years(-1)", x -> x.years(-1), BAD, AS_BAD);
        refused(() -> inYear(999), "years(0) at 999", x -> x.years(0), BAD, AS_BAD);
        refused(() -> inYear(999), "years(61) at 999", x -> x.years(61), BAD, AS_BAD);
        for (int n = 1; n <= 60; n++) {
            StoneHeld x = told("people;thing 0 30;one 0 1 0;own 0 0;");
            due("years(" + n + ")", x.years(n), 1);
            due("the year", x.count(4), n);
            due("older by", x.of(0, 2), n);
            due("together one", x.count(8), 1);
            due("undone", x.undo(), 0);
            due("as old as he was", x.of(0, 2), 0);
            due("no other", x.undo(), NO);
        }
    }

    private static void lastYear() {
        says("YEARS have numbers, 0 at first (999 at most).");
        int[][] ways = {{998, 1, 1}, {998, 2, 1}, {998, 60, 1}, {997, 1, 1}, {940, 59, 59}, {940, 60, 59},
            {939, 60, 60}, {938, 60, 60}, {997, 2, 2}};
        for (int[] way : ways) {
            StoneHeld x = inYear(way[0]);
            x.thing(0, 30);
            x.one(0, 1, 0);
            x.owns(0, 0);
            String what = "from " + way[0] + " by " + way[1];
            due(what, x.years(way[1]), 1);
            due(what + ", the year", x.count(4), way[0] + way[2]);
            due(what + ", older by", x.of(0, 2), way[2]);
            due(what + ", to be undone", x.count(8), 2);
            due(what + ", undone", x.undo(), way[0]);
            due(what + ", as old as he was", x.of(0, 2), 0);
        }
    }

    private static void atTheLastYearNone() {
        says("at 999 none");
        StoneHeld x = inYear(999);
        x.thing(0, 30);
        x.thing(0, 1);
        x.one(0, 1, 0);
        x.one(0, 1, 0);
        x.one(0, 1, 0);
        x.owns(0, 0);
        x.owns(1, 1);
        long before = x.digest();
        for (int n = 1; n <= 60; n += 59) {
            due("years(" + n + ")", x.years(n), 3);
            due("nobody is lost or older, and none more may be undone", x.digest(), before);
        }
        due("undo of the giving", x.undo(), 999);
        due("owns nothing", x.of(1, 3), NONE);
        due("undo of the giving", x.undo(), 999);
        due("no more", x.undo(), NO);
        counted(x, "at 999", 0, 1, 0);
        StoneHeld y = inYear(998);
        y.one(0, 1, 0);
        due("the last one goes by", y.years(1), 0);
        due("the year", y.count(4), 999);
        due("none", y.years(1), 0);
        due("one may be undone", y.count(8), 1);
        due("back", y.undo(), 998);
        due("here again", y.count(1), 1);
    }

    private static void nothingToUndo() {
        says("UNDO: the YEAR then. NO: none may be.");
        refused(StoneHeld::new, "undo()", x -> x.undo(), NO, AS_NO);
        refused(() -> {
            StoneHeld x = some();
            for (int k = 0; k < 4; k++) {
                x.undo();
            }
            return x;
        }, "undo() of a fifth", x -> x.undo(), NO, AS_NO);
        StoneHeld x = new StoneHeld();
        due("years", x.years(1), 0);
        due("undo()", x.undo(), 0);
        due("undo() again", x.undo(), NO);
        due("years", x.years(7), 0);
        due("years", x.years(5), 0);
        due("undo()", x.undo(), 7);
        due("years", x.years(3), 0);
        due("undo()", x.undo(), 7);
        due("undo()", x.undo(), 0);
        due("undo()", x.undo(), NO);
        counted(x, "undo", 0, 2, 0);
    }

    private static void eightAtMost() {
        says("(8 at most;");
        StoneHeld x = new StoneHeld();
        for (int k = 1; k <= 8; k++) {
            x.years(1);
            due("to be undone", x.count(8), k);
        }
        for (int k = 7; k >= 0; k--) {
            due("undo()", x.undo(), k);
            due("to be undone", x.count(8), k);
        }
        due("no ninth", x.undo(), NO);
        for (int k = 1; k <= 9; k++) {
            x.years(1);
        }
        due("eight of nine", x.count(8), 8);
        for (int k = 8; k >= 1; k--) {
            due("undo()", x.undo(), k);
        }
        due("the first of nine is for good", x.undo(), NO);
        due("the year", x.count(4), 1);
    }

    private static void afterTheEighth() {
        says("as ahead of the last YEARS gone by, giving, leaving (8 at most");
        StoneHeld x = held(1);
        due("one giving", x.count(8), 1);
        for (int k = 0; k < 10; k++) {
            x.leaves(0);
            x.owns(0, 0);
            x.years(1);
        }
        due("to be undone", x.count(8), 8);
        due("years", x.undo(), 9);
        due("giving", x.undo(), 9);
        due("owns nothing", x.of(0, 3), NONE);
        due("leaving", x.undo(), 9);
        due("owns it", x.of(0, 3), 0);
        due("to be undone", x.count(8), 5);
        x.years(1);
        x.years(1);
        x.years(1);
        x.years(1);
        due("to be undone", x.count(8), 8);
        int[] years = {12, 11, 10, 9, 8, 8, 8, 7};
        int[] owned = {0, 0, 0, 0, 0, NONE, 0, 0};
        for (int k = 0; k < 8; k++) {
            due("undo " + k, x.undo(), years[k]);
            due("owns then " + k, x.of(0, 3), owned[k]);
            due("as old as the year " + k, x.of(0, 2), years[k]);
        }
        due("no more", x.undo(), NO);
    }

    private static void noneBehindAComing() {
        says("behind a THING, one that comes none may be");
        StoneHeld x = held(6);
        due("to be undone", x.count(8), 6);
        x.thing(0, 1);
        due("behind a thing", x.count(8), 0);
        due("undo()", x.undo(), NO);
        due("all is as it was", x.count(3), 6);
        x.years(1);
        due("to be undone", x.count(8), 1);
        x.one(0, 1, 0);
        due("behind one", x.count(8), 0);
        due("undo()", x.undo(), NO);
        due("the year", x.count(4), 1);
        x.years(1);
        due("from then on", x.undo(), 1);
        due("here again", x.count(1), 7);
    }

    private static void refusedOnesKeepUndo() {
        says("Refused, changing nothing but STATUS");
        StoneHeld x = held(7);
        due("to be undone", x.count(8), 7);
        due("an 8th thing", x.thing(0, 1), FULL);
        due("an 8th one", x.one(0, 1, 0), FULL);
        due("a bad thing", x.thing(6, 1), BAD);
        due("a bad one", x.one(6, 1, 0), BAD);
        due("owns", x.owns(0, 0), NO);
        due("years", x.years(61), BAD);
        due("from", x.from(0), NO);
        due("to be undone", x.count(8), 7);
        due("leaves", x.leaves(0), 0);
        due("leaves", x.leaves(0), NO);
        due("to be undone", x.count(8), 8);
        for (int k = 0; k < 8; k++) {
            due("undo()", x.undo(), 0);
        }
        due("owned", x.count(3), 0);
        counted(x, "refused", 3, 3, 2);
    }

    private static void whatUndoBringsBack() {
        says("UNDO: who OWNS what, who is LOST, AGES, the YEAR as ahead of");
        StoneHeld x = told("people;thing 0 3;thing 0 30;thing 0 2;one 0 1 0;one 0 1 50;one 0 1 0;one 0 1 99;"
                + "own 0 0;own 1 1;own 2 2;years 1;");
        long[] before = new long[5];
        before[0] = x.digest();
        due("leaving", x.leaves(0), 0);
        before[1] = x.digest();
        due("giving", x.owns(0, 0), 1);
        before[2] = x.digest();
        due("years", x.years(60), 1);
        before[3] = x.digest();
        due("giving", x.leaves(1), 1);
        before[4] = x.digest();
        due("years", x.years(1), 0);
        int[] years = {61, 61, 1, 1, 1};
        for (int k = 4; k >= 0; k--) {
            due("undo " + k, x.undo(), years[4 - k]);
            due("as it was " + k, x.digest(), before[k]);
        }
        due("no more", x.undo(), NO);
    }

    private static void whatUndoLeaves() {
        says("UNDO: who OWNS what, who is LOST, AGES, the YEAR");
        StoneHeld x = held(1);
        x.seen(0, 1, 2, 1);
        x.note(0, 1, 2, 3);
        x.mark(0, 1, 2, 3);
        x.years(1);
        x.seen(0, 1, 2, 1);
        x.note(0, 1, 2, 3);
        x.mark(0, 1, 2, 3);
        x.image(0);
        x.type('x');
        x.shout(0, 0, 0);
        x.status(9);
        due("undo()", x.undo(), 0);
        for (int what = 5; what <= 7; what++) {
            due("count(" + what + ")", x.count(what), 2);
        }
        due("the text", x.count(9), 1);
        due("the fraction", x.part(0), 1);
        counted(x, "undo", 1, 0, 0);
        due("the image", x.from(0), 1);
        due("its year", x.count(4), 1);
        x.forget(0);
        due("undo()", x.undo(), 0);
        due("what was forgotten stays so", x.count(5), 0);
    }

    private static void imageNumbers() {
        says("IMAGES 0, 1");
        for (int i : new int[] {LEAST, -1, 2, GREATEST}) {
            refused(Checks::some, "image(" + i + ")", x -> x.image(i), BAD, AS_BAD);
            refused(Checks::some, "from(" + i + ")", x -> x.from(i), BAD, AS_BAD);
        }
        says("It goes on from an IMAGE: 1. BAD; NO: none was kept.");
        refused(StoneHeld::new, "from(0)", x -> x.from(0), NO, AS_NO);
        refused(StoneHeld::new, "from(1)", x -> x.from(1), NO, AS_NO);
        for (int kept = 0; kept < 2; kept++) {
            int image = kept;
            Maker maker = () -> {
                StoneHeld x = held(3);
                x.image(image);
                return x;
            };
            refused(maker, "from the other one", x -> x.from(1 - image), NO, AS_NO);
            StoneHeld x = maker.make();
            due("from", x.from(image), 1);
            due("from again", x.from(image), 1);
            due("three", x.count(0), 3);
        }
    }

    private static void imagesApart() {
        says("An IMAGE is kept: 1.");
        StoneHeld x = held(3);
        due("image(0)", x.image(0), 1);
        long three = x.digest();
        x.years(2);
        x.leaves(0);
        x.seen(0, 0, 0, 0);
        due("image(1)", x.image(1), 1);
        long later = x.digest();
        x.years(60);
        x.thing(0, 1);
        x.one(0, 1, 0);
        x.note(0, 1, 1, 1);
        x.mark(0, 1, 1, 1);
        for (int k = 0; k < 2; k++) {
            due("from(0)", x.from(0), 1);
            due("as it was", x.digest(), three);
            x.owns(0, 0);
            x.years(5);
            x.seen(0, 9, 9, 1);
            due("from(1)", x.from(1), 1);
            due("as it was", x.digest(), later);
            x.forget(0);
            x.undo();
            x.people();
        }
        due("image(0) of nobody", x.image(0), 1);
        due("from(1)", x.from(1), 1);
        due("from(0)", x.from(0), 1);
        due("nobody", x.count(0), 0);
        due("from(1)", x.from(1), 1);
        due("image(0) of the other", x.image(0), 1);
        x.people();
        due("from(0)", x.from(0), 1);
        due("alike", x.digest(), later);
    }

    private static void imagesOfTheEmptyAndTheFull() {
        says("IMAGES 0, 1 keep all but them, THE TEXT, THE FRACTION and STATUS");
        StoneHeld x = new StoneHeld();
        due("image of nobody", x.image(0), 1);
        StoneHeld full = most();
        long before = full.digest();
        due("image of the full", full.image(0), 1);
        full.people();
        due("image of nobody", full.image(1), 1);
        due("from the full", full.from(0), 1);
        due("as it was", full.digest(), before);
        due("from nobody", full.from(1), 1);
        due("nobody", full.digest(), mix(0, 0, 0, 0, 0, 0, 0, 0, 0, 150, 0, 1));
        due("undo()", full.undo(), NO);
        due("from the full", full.from(0), 1);
        due("as it was", full.digest(), before);
        due("full", full.thing(0, 1), FULL);
        due("full", full.one(0, 1, 0), FULL);
        due("full", full.seen(0, 0, 0, 0), FULL);
        due("full", full.note(0, 1, 0, 0), FULL);
        due("full", full.mark(0, 1, 0, 0), FULL);
    }

    /** Things, people and rows, as many as may be, that are unlike in every number. */
    private static void fillAnew(StoneHeld x, int shift) {
        x.people();
        for (int k = 0; k < 7; k++) {
            x.thing((k + shift) % 6, 1 + k + shift);
            x.one((k + shift + 1) % 6, 1 + (k + shift) % 9, 10 + k + 10 * shift);
        }
        for (int k = 0; k < 6; k++) {
            x.seen((k + shift) % 7, k + shift, k + 2 * shift, (k + shift) % 2);
            x.note((k + shift) % 7, 1 + k + shift, k + 2 * shift, k + 3 * shift);
            x.mark((k + shift) % 7, 1 + (k + shift) % 9, k + 2 * shift, k + 3 * shift);
        }
        x.owns(shift, shift);
    }

    private static void imagesOfOtherRows() {
        says("IMAGES 0, 1 keep all but them");
        StoneHeld x = new StoneHeld();
        fillAnew(x, 1);
        long first = x.digest();
        due("image(0)", x.image(0), 1);
        fillAnew(x, 2);
        long second = x.digest();
        due("image(1)", x.image(1), 1);
        holds("unlike", first != second);
        fillAnew(x, 3);
        for (int k = 0; k < 3; k++) {
            due("from(0)", x.from(0), 1);
            due("the first", x.digest(), first);
            due("from(1)", x.from(1), 1);
            due("the second", x.digest(), second);
        }
        due("image(0) anew", x.image(0), 1);
        fillAnew(x, 4);
        due("from(0)", x.from(0), 1);
        due("the second", x.digest(), second);
    }

    private static void imagesKeepWhatMayBeUndone() {
        says("what may be undone they keep; it goes on from one");
        StoneHeld x = held(1);
        for (int k = 0; k < 9; k++) {
            x.years(1);
        }
        x.image(0);
        for (int k = 0; k < 5; k++) {
            x.undo();
        }
        x.image(1);
        for (int k = 0; k < 3; k++) {
            x.undo();
        }
        due("no more", x.undo(), NO);
        due("from(0)", x.from(0), 1);
        due("eight", x.count(8), 8);
        for (int k = 8; k >= 1; k--) {
            due("undo()", x.undo(), k);
        }
        due("no more", x.undo(), NO);
        due("from(1)", x.from(1), 1);
        due("three", x.count(8), 3);
        due("undo()", x.undo(), 3);
        due("undo()", x.undo(), 2);
        due("undo()", x.undo(), 1);
        due("no more", x.undo(), NO);
        due("from(0) again", x.from(0), 1);
        x.years(1);
        due("it goes on from it", x.count(8), 8);
        due("undo()", x.undo(), 9);
        for (int k = 8; k >= 2; k--) {
            due("undo()", x.undo(), k);
        }
        due("no more", x.undo(), NO);
        due("the image has them yet", x.from(0), 1);
        for (int k = 8; k >= 1; k--) {
            due("undo()", x.undo(), k);
        }
    }

    private static void imagesLeaveTheRest() {
        says("all but them, THE TEXT, THE FRACTION and STATUS");
        StoneHeld x = held(2);
        x.image(0);
        x.image(1);
        tell(x, "people;one 0 1 0;");
        x.shout(0, 0, 5);
        x.status(3);
        x.years(1);
        x.image(1);
        due("from(0)", x.from(0), 1);
        due("the text", x.count(9), 17);
        due("above", x.part(0), 1);
        due("below", x.part(1), 1);
        counted(x, "from", 1, 0, 0);
        due("the other image is not the image's", x.from(1), 1);
        due("its year", x.count(4), 1);
        due("the text is read", x.read(), 2);
    }

    private static void rowsFull() {
        says("SEEN: how many there are. BAD; FULL: 5.");
        rows("seen", 5, 0, 5, x -> x.seen(0, 99, 60, 1));
        says("A NOTE: how many there are. BAD; FULL: 6.");
        rows("note", 6, 1, 6, x -> x.note(0, 30, 99, 99));
        says("A MARK: how many there are. BAD; FULL: 6.");
        rows("mark", 6, 2, 7, x -> x.mark(0, 9, 99, 99));
        says("No SEEN ones (0), NOTES (1), MARKS (2): how many there were. BAD.");
        StoneHeld x = most();
        int[] many = {5, 6, 6};
        for (int what = 0; what < 3; what++) {
            due("forget(" + what + ")", x.forget(what), many[what]);
            for (int other = 0; other < 3; other++) {
                due("count(" + (5 + other) + ")", x.count(5 + other), other <= what ? 0 : many[other]);
            }
            due("forget(" + what + ") again", x.forget(what), 0);
        }
        due("forget(3)", x.forget(3), BAD);
        due("forget(-1)", x.forget(-1), BAD);
    }

    private static void rows(String name, int most, int what, int count, Call call) {
        StoneHeld x = held(1);
        due("none", x.count(count), 0);
        due("forget of none", x.forget(what), 0);
        for (int round = 0; round < 2; round++) {
            for (int k = 1; k <= most; k++) {
                due(name, call.ask(x), k);
                due("how many", x.count(count), k);
            }
            long before = x.digest();
            due(name + " too many", call.ask(x), FULL);
            due(name + " too many", call.ask(x), FULL);
            due("as it was", x.digest(), before);
            due("forget", x.forget(what), most);
        }
        counted(x, name, 0, 0, 4);
    }

    private static void lastCall() {
        says("An object is used for at most 512 calls after it has been made");
        StoneHeld x = new StoneHeld();
        for (int k = 1; k <= 255; k++) {
            due("years(0)", x.years(0), BAD);
            due("undo()", x.undo(), NO);
        }
        due("status(0)", x.status(0), 255);
        due("status(1)", x.status(1), 255);
        StoneHeld y = held(1);
        for (int k = 0; k < 254; k++) {
            due("leaves", y.leaves(0), 0);
            due("owns", y.owns(0, 0), 1);
        }
        due("the 512th", y.count(8), 8);
    }
}
