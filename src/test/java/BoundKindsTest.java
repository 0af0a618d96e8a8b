/** What the KINDS of THINGS weigh and the KINDS of PEOPLE lift, at every bound that is told of them. */
public final class BoundKindsTest extends Checks {
    private static final int STONE = 0;
    private static final int BELL = 1;
    private static final int TRUNK = 2;
    private static final int WALL = 3;
    private static final int SELF = 4;
    private static final int SISTER = 5;
    private static final int PLAIN = 0;
    private static final int SMITH = 1;
    private static final int WEAK = 2;
    private static final int LAD = 3;
    private static final int WEDDED = 4;
    private static final int OLD = 5;

    public static void main(String[] args) {
        stones();
        bells();
        trunks();
        walls();
        selves();
        sisters();
        plainOnes();
        smiths();
        weakOnes();
        lads();
        weddedOnes();
        oldOnes();
        weighingMore();
        end("kinds at their bounds");
    }

    /** What the year's own call, a look ahead and a NOTE say must be the same. */
    private static void weighs(int kind, int weight, int year, int due) {
        String what = "kind " + kind + " of weight " + weight + " in year " + year;
        StoneHeld x = inYear(Math.min(year, 999));
        x.thing(kind, weight);
        due(what, x.weighs(0, Math.max(0, year - 999)), due);
        StoneHeld y = inYear(Math.max(0, Math.min(year, 999) - 60));
        y.thing(kind, weight);
        int ahead = year - y.count(4);
        if (ahead <= 60) {
            due(what + ", seen from " + y.count(4), y.weighs(0, ahead), due);
        }
        if (year <= 99) {
            noted(what, x, kind, weight, year, due);
        }
    }

    private static void noted(String what, StoneHeld x, int kind, int weight, int year, int due) {
        x.note(0, weight, year, due);
        due(what + ", noted", x.is(0) >> kind & 1, 1);
        for (int other = Math.max(0, due - 1); other <= due + 1; other += 2) {
            x.forget(1);
            x.note(0, weight, year, other);
            due(what + ", noted as " + other, x.is(0) >> kind & 1, 0);
        }
    }

    /** What he LIFTS now, what he would behind some YEARS, what is SEEN and what is MARKED agree. */
    private static void lifts(int kind, int strength, int age, int due) {
        String what = "kind " + kind + " of strength " + strength + " aged " + age;
        StoneHeld x = new StoneHeld();
        x.one(kind, strength, age);
        due(what, x.lifts(0, 0), due);
        int younger = Math.max(0, age - 60);
        x.one(kind, strength, younger);
        due(what + ", seen from " + younger, x.lifts(1, age - younger), due);
        x.mark(0, strength, age, due);
        due(what + ", marked", x.kinds(0) >> kind & 1, 1);
        for (int other = Math.max(0, due - 1); other <= due + 1; other++) {
            x.forget(2);
            x.mark(0, strength, age, other);
            due(what + ", marked as " + other, x.kinds(0) >> kind & 1, other == due ? 1 : 0);
        }
        if (due < 60) {
            x.seen(0, age, due, 1);
            holds(what + ", seen to lift " + due, x.strong(0, 2) >= strength);
            x.seen(0, age, due + 1, 0);
            holds(what + ", seen not to lift " + (due + 1), x.strong(0, 1) <= strength && x.strong(0, 0) > 0);
        }
    }

    private static void stones() {
        says("0 STONE: w.");
        weighs(STONE, 1, 0, 1);
        weighs(STONE, 30, 0, 30);
        weighs(STONE, 30, 999, 30);
        weighs(STONE, 1, 1059, 1);
    }

    private static void bells() {
        says("1 BELL (under STONE): 6 more than STONE.");
        weighs(BELL, 1, 0, 7);
        weighs(BELL, 30, 0, 36);
        weighs(BELL, 30, 999, 36);
    }

    private static void trunks() {
        says("2 TRUNK (under STONE): half (cut up) of STONE.");
        weighs(TRUNK, 1, 0, 1);
        weighs(TRUNK, 2, 0, 1);
        weighs(TRUNK, 3, 0, 2);
        weighs(TRUNK, 4, 0, 2);
        weighs(TRUNK, 29, 0, 15);
        weighs(TRUNK, 30, 0, 15);
        weighs(TRUNK, 30, 1, 15);
    }

    private static void walls() {
        says("3 WALL (under BELL): BELL and y by 10 (cut), 20 more at most.");
        weighs(WALL, 1, 0, 7);
        weighs(WALL, 1, 9, 7);
        weighs(WALL, 1, 10, 8);
        weighs(WALL, 1, 19, 8);
        weighs(WALL, 1, 20, 9);
        weighs(WALL, 30, 99, 45);
        weighs(WALL, 30, 100, 46);
        weighs(WALL, 30, 189, 54);
        weighs(WALL, 30, 190, 55);
        weighs(WALL, 30, 199, 55);
        weighs(WALL, 30, 200, 56);
        weighs(WALL, 30, 209, 56);
        weighs(WALL, 30, 210, 56);
        weighs(WALL, 30, 999, 56);
        weighs(WALL, 1, 999, 27);
        weighs(WALL, 1, 1059, 27);
    }

    private static void selves() {
        says("4 SELF (under TRUNK): TRUNK, 9 more, if y is an odd number.");
        weighs(SELF, 1, 0, 1);
        weighs(SELF, 1, 1, 10);
        weighs(SELF, 1, 2, 1);
        weighs(SELF, 29, 98, 15);
        weighs(SELF, 29, 99, 24);
        weighs(SELF, 30, 998, 15);
        weighs(SELF, 30, 999, 24);
        weighs(SELF, 30, 1000, 15);
        weighs(SELF, 30, 1001, 24);
        weighs(SELF, 30, 1059, 24);
    }

    private static void sisters() {
        says("5 SISTER (under TRUNK): twice TRUNK, less 1.");
        weighs(SISTER, 1, 0, 1);
        weighs(SISTER, 2, 0, 1);
        weighs(SISTER, 3, 0, 3);
        weighs(SISTER, 4, 0, 3);
        weighs(SISTER, 29, 0, 29);
        weighs(SISTER, 30, 0, 29);
        weighs(SISTER, 30, 1, 29);
    }

    private static void plainOnes() {
        says("0 PLAIN: twice s, and a third (cut) of a, a counting 30 at most.");
        lifts(PLAIN, 1, 0, 2);
        lifts(PLAIN, 9, 0, 18);
        lifts(PLAIN, 1, 2, 2);
        lifts(PLAIN, 1, 3, 3);
        lifts(PLAIN, 1, 5, 3);
        lifts(PLAIN, 1, 6, 4);
        lifts(PLAIN, 1, 29, 11);
        lifts(PLAIN, 1, 30, 12);
        lifts(PLAIN, 1, 31, 12);
        lifts(PLAIN, 1, 33, 12);
        lifts(PLAIN, 1, 99, 12);
        lifts(PLAIN, 9, 99, 28);
    }

    private static void smiths() {
        says("1 SMITH (under PLAIN): 8 more than PLAIN.");
        lifts(SMITH, 1, 0, 10);
        lifts(SMITH, 9, 0, 26);
        lifts(SMITH, 9, 29, 35);
        lifts(SMITH, 9, 30, 36);
        lifts(SMITH, 9, 99, 36);
        lifts(SMITH, 9, 95, 36);
    }

    private static void weakOnes() {
        says("2 WEAK (under PLAIN): half (cut) of PLAIN.");
        lifts(WEAK, 1, 0, 1);
        lifts(WEAK, 1, 3, 1);
        lifts(WEAK, 1, 6, 2);
        lifts(WEAK, 9, 27, 13);
        lifts(WEAK, 9, 30, 14);
        lifts(WEAK, 9, 99, 14);
    }

    private static void lads() {
        says("3 LAD (under PLAIN): PLAIN, 6 less (0 at least), if a is below 18.");
        lifts(LAD, 1, 0, 0);
        lifts(LAD, 2, 0, 0);
        lifts(LAD, 2, 5, 0);
        lifts(LAD, 2, 6, 0);
        lifts(LAD, 2, 9, 1);
        lifts(LAD, 3, 0, 0);
        lifts(LAD, 3, 2, 0);
        lifts(LAD, 3, 3, 1);
        lifts(LAD, 4, 0, 2);
        lifts(LAD, 1, 17, 1);
        lifts(LAD, 1, 18, 8);
        lifts(LAD, 9, 16, 17);
        lifts(LAD, 9, 17, 17);
        lifts(LAD, 9, 18, 24);
        lifts(LAD, 9, 19, 24);
        lifts(LAD, 9, 99, 28);
    }

    private static void weddedOnes() {
        says("4 WEDDED (under SMITH): SMITH, twice that, if a by 10 leaves 5 over.");
        lifts(WEDDED, 1, 0, 10);
        lifts(WEDDED, 1, 4, 11);
        lifts(WEDDED, 1, 5, 22);
        lifts(WEDDED, 1, 6, 12);
        lifts(WEDDED, 1, 10, 13);
        lifts(WEDDED, 1, 14, 14);
        lifts(WEDDED, 1, 15, 30);
        lifts(WEDDED, 1, 16, 15);
        lifts(WEDDED, 1, 50, 20);
        lifts(WEDDED, 9, 85, 72);
        lifts(WEDDED, 9, 94, 36);
        lifts(WEDDED, 9, 95, 72);
        lifts(WEDDED, 9, 96, 36);
        lifts(WEDDED, 9, 99, 36);
    }

    private static void oldOnes() {
        says("5 OLD (under WEAK): WEAK, and 1 less for each whole 5 above 60 in a, 0 at least.");
        lifts(OLD, 9, 0, 9);
        lifts(OLD, 9, 30, 14);
        lifts(OLD, 9, 55, 14);
        lifts(OLD, 9, 59, 14);
        lifts(OLD, 9, 60, 14);
        lifts(OLD, 9, 64, 14);
        lifts(OLD, 9, 65, 13);
        lifts(OLD, 9, 69, 13);
        lifts(OLD, 9, 70, 12);
        lifts(OLD, 9, 94, 8);
        lifts(OLD, 9, 95, 7);
        lifts(OLD, 9, 99, 7);
        lifts(OLD, 1, 89, 1);
        lifts(OLD, 1, 90, 0);
        lifts(OLD, 1, 95, 0);
        lifts(OLD, 1, 99, 0);
        lifts(OLD, 2, 94, 1);
        lifts(OLD, 2, 95, 0);
        lifts(OLD, 3, 99, 1);
    }

    private static void weighingMore() {
        says("One is HELD by a THING that WEIGHS more than he LIFTS.");
        int[] due = {0, 0, 1, 1};
        for (int weight = 1; weight <= 4; weight++) {
            StoneHeld x = new StoneHeld();
            x.one(PLAIN, 1, 0);
            x.thing(STONE, weight);
            due("owns, who lifts 2, " + weight, x.owns(0, 0), due[weight - 1]);
            due("held by " + weight, x.held(), due[weight - 1]);
            due("left by " + weight, x.left(1), due[weight - 1]);
            due("match by " + weight, x.match(1, NONE), due[weight - 1]);
            due("years by " + weight, x.years(1), due[weight - 1]);
        }
        StoneHeld lad = new StoneHeld();
        lad.one(LAD, 1, 0);
        lad.thing(TRUNK, 1);
        due("the least holds who lifts 0", lad.owns(0, 0), 1);
        StoneHeld wedded = inYear(200);
        wedded.one(WEDDED, 9, 95);
        wedded.thing(WALL, 30);
        due("the greatest does not hold who lifts 72", wedded.owns(0, 0), 0);
    }
}
