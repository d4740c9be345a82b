/** Terms VI and VII, sentence by sentence: VALUES, SPLITS, holders, LEVIES, ARREARS, TURNS, ACCOUNTS. */
public final class EdgesOfHoldingsTest {
    private static final Probe p = new Probe();
    private static final int Y = 366;
    private static final int LAST = 146399;

    public static void main(String[] args) {
        valuesByDays();
        splitsCut();
        splitsInOrder();
        splitsByDays();
        heldByDays();
        heldAsThePartOf();
        levyOnItsDay();
        levyLeftOver();
        levyOfAllAndNone();
        levyBySums();
        arrears();
        turnsGoRound();
        turnsSpared();
        turnsOfTheDead();
        turnsByTheLastClause();
        turnsUneven();
        turnsOfYears();
        balances();
        closedYears();
        lateEntries();
        p.finish("EdgesOfHoldingsTest");
    }

    // ---- Terms VI

    /** "of those known and not behind d that of the latest DAY, of alike ones told last; 0 without" */
    private static void valuesByDays() {
        p.fresh();
        p.x.holding();
        p.due("0 without", p.x.house(0, LAST, LAST, 0), 0);
        p.x.value(0, 10, 1000, 0);
        p.x.value(0, 20, 2000, 0);
        p.x.value(0, 30, 1500, 0);
        p.x.value(0, 40, 2000, 700);
        p.x.value(0, 50, 999, 0);
        int[][] want = {{998, LAST, 0}, {999, LAST, 50}, {1000, LAST, 10}, {1499, LAST, 10}, {1500, LAST, 30}, {1999, LAST, 30},
            {2000, LAST, 40}, {2000, 699, 20}, {LAST, 700, 40}, {0, LAST, 0}};
        for (int[] one : want) {
            p.due("on " + one[0] + " as known on " + one[1], p.x.house(0, one[0], one[1], 0), one[2]);
        }
    }

    /** "takes what is left of the WHOLE times a / b, cut; VALUE is what is left in the end" */
    private static void splitsCut() {
        int[][] ones = {{100, 1, 3, 33}, {99, 1, 3, 33}, {98, 1, 3, 32}, {1, 99, 100, 0}, {2, 1, 2, 1}, {10000, 99, 100, 9900},
            {10000, 1, 100, 100}, {0, 1, 2, 0}, {100, 99, 100, 99}};
        for (int[] one : ones) {
            p.fresh();
            p.x.holding();
            p.x.value(0, one[0], 0, 0);
            p.x.split(0, one[1], one[2], 0, 0);
            p.due("takes of " + one[0], p.x.house(1, 0, 0, 0), one[3]);
            p.due("leaves of " + one[0], p.x.house(0, 0, 0, 0), one[0] - one[3]);
        }
        p.fresh();
        p.x.holding();
        p.x.split(0, 1, 2, 0, 0);
        p.refused("no VALUES of a SPLIT one", p.x.value(1, 5, 0, 0), -3);
        p.refused("nor of one that is not SPLIT off yet", p.x.value(p.x.split(0, 1, 2, LAST, LAST), 5, 0, 0), -3);
    }

    /** "in the order in which they were told each SPLIT from it" */
    private static void splitsInOrder() {
        p.fresh();
        p.x.holding();
        p.x.value(0, 1000, 0, 0);
        p.x.split(0, 1, 2, 2000, 0);
        p.x.split(0, 1, 10, 1000, 0);
        p.x.split(1, 1, 5, 0, 0);
        house("both", 2000, 450, 400, 50, 100);
        house("the second alone", 1999, 900, 0, 100, 0);
        house("none", 999, 1000, 0, 0, 0);
        // A part of a part takes of what that one took.
        p.x.split(3, 1, 2, 0, 0);
        house("a part of a part", 2000, 450, 400, 50, 50, 50);
        p.x.split(0, 1, 3, 0, 0);
        house("told last takes of what is left", 2000, 300, 400, 50, 50, 50, 150);
    }

    private static void house(String what, int day, int... want) {
        for (int h = 0; h < want.length; h++) {
            p.due(what + ": HOLDING " + h, p.x.house(h, day, LAST, 0), want[h]);
        }
    }

    /** "(of a DAY not behind d, known)" */
    private static void splitsByDays() {
        p.fresh();
        p.x.holding();
        p.x.value(0, 100, 0, 0);
        p.x.split(0, 1, 4, 1000, 500);
        int[][] want = {{999, LAST, 0}, {1000, LAST, 25}, {1000, 499, 0}, {1000, 500, 25}, {LAST, LAST, 25}};
        for (int[] one : want) {
            p.due("takes on " + one[0] + " as known on " + one[1], p.x.house(1, one[0], one[1], 0), one[2]);
            p.due("leaves on " + one[0] + " as known on " + one[1], p.x.house(0, one[0], one[1], 0), 100 - one[2]);
        }
    }

    /** "HELD ..: by the SOUL of a MENTION (NONE: nobody) from a DAY on, known from a DAY on: as with VALUES" */
    private static void heldByDays() {
        p.fresh();
        for (int n = 0; n < 3; n++) {
            p.line(3, n, 5, "ann lee.");
        }
        p.x.holding();
        p.due("nobody", p.x.house(0, LAST, LAST, 1), -1);
        p.x.hold(0, 3, 1000, 500);
        p.x.hold(0, -1, 2000, 500);
        p.x.hold(0, 6, 1500, 500);
        p.x.hold(0, 0, 2000, 700);
        int[][] want = {{999, LAST, -1}, {1000, LAST, 3}, {1000, 499, -1}, {1499, LAST, 3}, {1500, LAST, 6}, {1999, LAST, 6},
            {2000, LAST, 0}, {2000, 699, -1}};
        for (int[] one : want) {
            p.due("held on " + one[0] + " as known on " + one[1], p.x.house(0, one[0], one[1], 1), one[2]);
        }
        p.x.together(3, 6, 800);
        p.due("as one SOUL", p.x.house(0, 1500, 800, 1), 3);
        p.due("not yet", p.x.house(0, 1500, 799, 1), 6);
    }

    /** "a SPLIT one that nobody was told to hold is held as the one that it was split from" */
    private static void heldAsThePartOf() {
        p.fresh();
        p.line(3, 0, 5, "ann lee.");
        p.line(3, 0, 5, "bob lee.");
        p.x.holding();
        p.x.split(0, 1, 2, 0, 0);
        p.x.split(1, 1, 2, 0, 0);
        p.due("as nobody", p.x.house(2, 0, 0, 1), -1);
        p.x.hold(0, 0, 0, 0);
        p.due("as it", p.x.house(1, 0, 0, 1), 0);
        p.due("as it, twice", p.x.house(2, 0, 0, 1), 0);
        p.x.hold(1, 3, 1000, 500);
        p.due("told for a later DAY", p.x.house(1, 999, LAST, 1), 0);
        p.due("told", p.x.house(1, 1000, LAST, 1), 3);
        p.due("not known", p.x.house(1, 1000, 499, 1), 0);
        p.due("known", p.x.house(1, 1000, 500, 1), 3);
        p.due("its own part with it", p.x.house(2, 1000, 500, 1), 3);
        p.due("the whole is held as it was", p.x.house(0, 1000, 500, 1), 0);
    }

    private static void owes(String what, int levy, int... want) {
        int all = 0;
        for (int h = 0; h < want.length; h++) {
            p.due(what + ": HOLDING " + h, p.x.owe(levy, h, LAST), want[h]);
            all += want[h];
        }
        p.due(what + ": of all", p.x.owe(levy, -1, LAST), all);
    }

    private static void row(int... values) {
        p.fresh();
        for (int h = 0; h < values.length; h++) {
            p.line(3, 0, 5, "ann lee.");
            p.x.holding();
            p.x.value(h, values[h], 0, 0);
            p.x.hold(h, h * 3, 0, 0);
        }
    }

    /** "it is parted on the first DAY d of the YEAR, as known on the DAY that is asked" */
    private static void levyOnItsDay() {
        row(10, 10);
        p.x.levy(0, 5, 100, 0);
        p.x.levy(0, 4, 100, 0);
        p.x.levy(0, 399, 100, 0);
        p.x.value(0, 30, 5 * Y, 1000);
        owes("a VALUE of its first DAY", 0, 75, 25);
        p.due("as known ahead", p.x.owe(0, 0, 999), 50);
        p.due("as known", p.x.owe(0, 0, 1000), 75);
        owes("a YEAR ahead", 1, 50, 50);
        p.x.value(1, 90, 5 * Y + 1, 0);
        owes("a VALUE of its second DAY", 0, 75, 25);
        p.x.value(0, 10, 399 * Y + 1, 0);
        p.x.value(0, 210, 399 * Y, 0);
        owes("the last YEAR's", 2, 70, 30);
        p.x.hold(1, -1, 5 * Y, 2000);
        owes("not held", 0, 100, 0);
        p.due("as known ahead", p.x.owe(0, 0, 1999), 75);
    }

    /** "cut; of what is left one each those with the greatest rests, of alike ones the lower" */
    private static void levyLeftOver() {
        row(1, 1, 1);
        for (int pence = 0; pence <= 6; pence++) {
            p.x.levy(0, 0, pence, 0);
            owes(pence + " pence by three", pence, (pence + 2) / 3, (pence + 1) / 3, pence / 3);
        }
        row(1, 2, 4);
        p.x.levy(0, 0, 5, 0);
        // 5/7, 10/7, 20/7: 0 and 5, 1 and 3, 2 and 6: two are left.
        owes("the greatest rests", 0, 1, 1, 3);
        p.x.levy(0, 0, 1, 0);
        owes("one penny", 1, 0, 0, 1);
        p.x.levy(0, 0, 1000000, 0);
        owes("the most pence", 2, 142857, 285714, 571429);
        row(5, 0, 5);
        p.x.levy(0, 0, 3, 0);
        owes("VALUES above 0 alone", 0, 2, 0, 1);
    }

    private static void levyOfAllAndNone() {
        row(0, 0);
        p.x.levy(0, 0, 100, 0);
        owes("no VALUES", 0, 0, 0);
        row(10000);
        p.x.levy(2, 0, 1000000, 0);
        owes("one alone", 0, 1000000);
        p.law("exempt poor");
        owes("it is exempt", 0, 0);
        p.fresh();
        p.x.levy(0, 0, 100, 0);
        p.due("no HOLDINGS", p.x.owe(0, -1, 0), 0);
        p.due("no HOLDING 0", p.x.owe(0, 0, 0), -1);
    }

    /** "then no one owes more than the SUM of the \"rate\" .. that COUNTS for its holder (below 0: 0)" */
    private static void levyBySums() {
        row(10, 10, 20);
        p.x.levy(1, 0, 400, 0);
        owes("without", 0, 100, 100, 200);
        p.law("rate way 100");
        owes("just that, and more", 0, 100, 100, 100);
        p.law("rate way 99");
        owes("one less", 0, 99, 99, 99);
        p.law("rate way 0 - 1");
        owes("below 0: 0", 0, 0, 0, 0);
        p.law("rate way 150 - value * 5");
        owes("by each holder", 0, 100, 100, 50);
        p.law("rate church 1;rate poor 1");
        owes("another WHAT", 0, 100, 100, 50);
        p.law("rate way 1 if poor;rate way 1 / 0");
        owes("that HOLDS not", 0, 100, 100, 50);
        p.text(0, 1, 0, "rate way 1");
        owes("of a DAY behind the first", 0, 100, 100, 50);
        p.law("rate way 1000 if value = 20;rate way 7 if value = 10;exempt way if value > 50");
        owes("the first ones, too", 0, 7, 7, 200);
    }

    /** "what is owed less what was PAID on DAYS not behind d, as known (below 0, too)" */
    private static void arrears() {
        row(10, 30);
        p.x.levy(0, 5, 100, 0);
        p.x.levy(0, 5, 100, 0);
        p.x.pay(0, 0, 24, 1000, 500);
        p.x.pay(0, 0, 2, 2000, 600);
        int[][] want = {{999, LAST, 25}, {1000, LAST, 1}, {1000, 499, 25}, {1000, 500, 1}, {1999, LAST, 1}, {2000, LAST, -1},
            {2000, 599, 1}, {2000, 600, -1}, {0, 0, 25}, {LAST, LAST, -1}};
        for (int[] one : want) {
            p.due("on " + one[0] + " as known on " + one[1], p.x.arrear(0, 0, one[0], one[1]), one[2]);
        }
        p.due("of the other HOLDING", p.x.arrear(0, 1, LAST, LAST), 75);
        p.due("of the other LEVY", p.x.arrear(1, 0, LAST, LAST), 25);
        // By itself, as known on a DAY on which nothing else was asked.
        p.x.together(0, 3, 3000);
        p.law("exempt church if value > 30");
        p.due("one SOUL holds 40 and is exempt", p.x.arrear(0, 1, 0, 3000), 0);
        p.due("not yet", p.x.arrear(0, 1, 0, 2999), 75);
        p.due("PAID of what is not owed", p.x.arrear(0, 0, LAST, 3000), -26);
    }

    // ---- Terms VII

    private static void turn(int office, int year, int house, int passed) {
        p.due("TURN of " + office + " in " + year, p.x.turn(office, year, LAST, 0), house);
        p.due("PASSED of " + office + " in " + year, p.x.turn(office, year, LAST, 1), passed);
    }

    /** "it goes round from the HOUSE behind that which served last (from 0 at first)" */
    private static void turnsGoRound() {
        row(10, 20, 30);
        p.law("turn constable 0;turn surveyor 0 if value > 10;turn overseer 0 if value = 30;turn warden 0 if value > 99");
        int[] constable = {0, 1, 2, 0, 1, 2};
        for (int year = 0; year < 6; year++) {
            turn(0, year, constable[year], 0);
        }
        int[][] surveyor = {{1, 1}, {2, 0}, {1, 1}, {2, 0}};
        for (int year = 0; year < 4; year++) {
            turn(1, year, surveyor[year][0], surveyor[year][1]);
            turn(2, year, 2, 2);
            turn(3, year, -1, 3);
        }
        turn(0, 399, 0, 0);
        turn(1, 399, 2, 0);
        row(10);
        p.law("turn constable 0");
        turn(0, 0, 0, 0);
        turn(0, 399, 0, 0);
        p.fresh();
        p.law("turn constable 0");
        turn(0, 0, -1, 0);
    }

    /** "and which served this OFFICE in none of so many YEARS ahead as the CLAUSE tells" */
    private static void turnsSpared() {
        for (int spared = 0; spared < 4; spared++) {
            row(10, 20);
            p.law("turn constable " + spared + ";turn warden 0");
            int[][] want = {{0, 0, 1, 0, 0, 0, 1, 0}, {0, 0, 1, 0, 0, 0, 1, 0}, {0, 0, 1, 0, -1, 2, 0, 0}, {0, 0, 1, 0, -1, 2, -1, 2}};
            for (int year = 0; year < 4; year++) {
                turn(0, year, want[spared][year * 2], want[spared][year * 2 + 1]);
            }
            turn(3, 3, 1, 0);
        }
        row(10);
        p.law("turn constable 399");
        turn(0, 0, 0, 0);
        turn(0, 399, -1, 1);
        row(10);
        p.law("turn constable 398");
        turn(0, 398, -1, 1);
        turn(0, 399, 0, 0);
        row(10);
        p.law("turn constable 1");
        turn(0, 0, 0, 0);
        turn(0, 1, -1, 1);
        turn(0, 2, 0, 0);
    }

    /** "held by a SOUL that is not dead on that DAY" */
    private static void turnsOfTheDead() {
        row(10, 20);
        p.law("turn constable 0");
        p.line(2, 0, 2 * Y, 1000, -1, "ann lee.");
        p.x.together(0, 6, 0);
        turn(0, 1, 1, 0);
        turn(0, 2, 1, 1);
        p.due("not known to be", p.x.turn(0, 2, 999, 0), 0);
        p.due("known to be", p.x.turn(0, 2, 1000, 0), 1);
        row(10, 20);
        p.law("turn constable 0");
        p.line(2, 0, 2 * Y + 1, 1000, -1, "ann lee.");
        p.x.together(0, 6, 0);
        turn(0, 2, 0, 0);
        p.x.hold(1, -1, 3 * Y, 0);
        turn(0, 3, -1, 2);
        p.x.hold(0, 3, 4 * Y, 0);
        turn(0, 4, 0, 1);
        p.x.hold(0, -1, 4 * Y + 1, 0);
        turn(0, 4, 0, 1);
        turn(0, 5, -1, 2);
    }

    /** "\"turn\" CLAUSES of it IN FORCE, the last in order" */
    private static void turnsByTheLastClause() {
        row(10, 20);
        p.text(0, 2 * Y, 500, "turn constable 0;turn constable 0 if value = 20");
        turn(0, 0, -1, 0);
        turn(0, 1, -1, 0);
        turn(0, 2, 1, 1);
        p.due("not known", p.x.turn(0, 2, 499, 0), -1);
        p.due("not known: nothing PASSED", p.x.turn(0, 2, 499, 1), 0);
        p.due("known", p.x.turn(0, 2, 500, 0), 1);
        p.text(0, 3 * Y + 1, 0, "turn constable 0 if value = 10");
        turn(0, 3, 1, 1);
        turn(0, 4, 0, 0);
        p.text(1, 5 * Y, 0, "turn constable 0 if value = 99");
        turn(0, 5, -1, 2);
        p.text(0, 6 * Y, 0, "turn constable 0");
        turn(0, 6, -1, 2);
        p.text(1, 7 * Y, 0, "strike 2 clause 0");
        turn(0, 7, 1, 0);
        p.text(1, 8 * Y, 0, "strike 0 clause 0;strike 0 clause 1;strike 1 clause 0;strike 3 clause 0");
        turn(0, 8, -1, 0);
    }

    /** "how often the HOLDING that served most did until then, less the one that did least" */
    private static void turnsUneven() {
        row(10, 20, 30);
        p.law("turn constable 0;turn warden 0 if value = 10");
        int[] want = {1, 1, 0, 1, 1, 0};
        for (int year = 0; year < 6; year++) {
            p.due("uneven in " + year, p.x.turn(0, year, LAST, 2), want[year]);
            p.due("one alone in " + year, p.x.turn(3, year, LAST, 2), year + 1);
            p.due("nobody in " + year, p.x.turn(1, year, LAST, 2), 0);
        }
        p.due("one alone in 399", p.x.turn(3, 399, LAST, 2), 400);
        p.due("of two YEARS, behind 400", p.x.turn(3, 1, LAST, 2), 2);
        p.x.holding();
        p.due("one that never served", p.x.turn(0, 2, LAST, 2), 1);
        row(10);
        p.law("turn constable 0");
        p.due("one HOLDING", p.x.turn(0, 399, LAST, 2), 0);
        p.fresh();
        p.law("turn constable 0");
        p.due("without HOLDINGS", p.x.turn(0, 399, LAST, 2), 0);
    }

    /** "YEAR by YEAR from 0 on, on its first DAY"; "YEARS without such a CLAUSE: NONE, nothing PASSED." */
    private static void turnsOfYears() {
        row(10, 20, 30);
        p.text(0, 399 * Y, 0, "turn constable 0");
        turn(0, 398, -1, 0);
        turn(0, 399, 0, 0);
        row(10, 20, 30);
        p.text(0, 399 * Y + 1, 0, "turn constable 0");
        turn(0, 399, -1, 0);
        row(10, 20, 30);
        p.text(0, 0, 0, "turn constable 0");
        p.text(0, Y, 0, "strike 0 clause 0");
        p.text(0, 3 * Y, 0, "strike 1 clause 0");
        turn(0, 0, 0, 0);
        turn(0, 1, -1, 0);
        turn(0, 2, -1, 0);
        turn(0, 3, 1, 0);
    }

    /** "what the YEAR ahead was CLOSED with on a DAY not behind k (0, if it was not), and its ENTRIES known by k" */
    private static void balances() {
        p.fresh();
        p.x.entry(0, 5, 7, 1000);
        p.x.entry(0, 6, 1, 500);
        p.x.entry(0, 4, 100, 0);
        p.due("the YEAR ahead is not CLOSED", p.x.balance(0, 5, LAST), 7);
        p.x.close(0, 5, 7, 2000);
        int[][] want = {{5, 999, 0}, {5, 1000, 7}, {6, 499, 0}, {6, 500, 1}, {6, 1999, 1}, {6, 2000, 8}, {6, LAST, 8}, {7, LAST, 0},
            {4, LAST, 100}, {0, LAST, 0}};
        for (int[] one : want) {
            p.due("YEAR " + one[0] + " as known on " + one[1], p.x.balance(0, one[0], one[1]), one[2]);
        }
        p.due("another OFFICE", p.x.balance(1, 6, LAST), 0);
        p.due("YEAR 0 has none ahead", p.x.balance(3, 0, LAST), 0);
    }

    /** "it can't be (-3), unless the BALANCE is just that ..; and it is the one behind that which was CLOSED last" */
    private static void closedYears() {
        p.fresh();
        p.x.entry(0, 5, 7, 1000);
        p.refused("one less", p.x.close(0, 5, 6, 1000), -3);
        p.refused("one more", p.x.close(0, 5, 8, 1000), -3);
        p.refused("as known a DAY ahead", p.x.close(0, 5, 7, 999), -3);
        p.taken("just that, as known a DAY ahead", p.x.close(1, 5, 0, 999), 0);
        p.taken("just that", p.x.close(0, 5, 7, 1000), 0);
        p.refused("the same again", p.x.close(0, 5, 7, 1000), -3);
        p.refused("the one ahead", p.x.close(0, 4, 0, 1000), -3);
        p.refused("two behind", p.x.close(0, 7, 0, 1000), -3);
        p.refused("as if the YEAR ahead were not CLOSED", p.x.close(0, 6, 0, 1000), -3);
        p.refused("as known ahead of that", p.x.close(0, 6, 7, 999), -3);
        p.taken("the next one", p.x.close(0, 6, 7, 1000), 0);
        p.taken("the next one, as known ahead of all", p.x.close(0, 7, 0, 0), 0);
        p.due("it was CLOSED with 0", p.x.balance(0, 8, LAST), 0);
        p.taken("another OFFICE goes by its own", p.x.close(1, 6, 0, 999), 0);
        p.refused("and not by this one's", p.x.close(1, 8, 0, 999), -3);
    }

    /** "an ENTRY for a YEAR that was CLOSED on a DAY ahead of that from which it is known counts for the first YEAR behind it .." */
    private static void lateEntries() {
        p.fresh();
        p.x.close(0, 5, 0, 1000);
        p.x.close(0, 6, 0, 2000);
        p.x.close(0, 7, 0, 3000);
        p.x.entry(0, 5, 1, 999);
        p.x.entry(0, 5, 10, 1000);
        p.x.entry(0, 5, 100, 1001);
        p.x.entry(0, 5, 1000, 2000);
        p.x.entry(0, 5, 10000, 2001);
        p.x.entry(0, 5, 100000, 3001);
        int[][] want = {{4, 0}, {5, 11}, {6, 1100}, {7, 10000}, {8, 100000}, {9, 0}};
        for (int[] one : want) {
            p.due("YEAR " + one[0], p.x.balance(0, one[0], LAST), one[1]);
        }
        p.due("of its own YEAR as known", p.x.balance(0, 5, 999), 1);
        p.due("of the next as known", p.x.balance(0, 6, 1000), 0);
        p.due("of the next as known", p.x.balance(0, 6, 1001), 100);
        // CLOSED later on an earlier DAY: what was told moves on.
        p.fresh();
        p.x.entry(0, 8, 5, 50);
        p.due("its own", p.x.balance(0, 8, LAST), 5);
        p.taken("CLOSED as known on DAY 49", p.x.close(0, 8, 0, 49), 0);
        p.due("no more", p.x.balance(0, 8, LAST), 0);
        p.due("but the next one's", p.x.balance(0, 9, LAST), 5);
        p.fresh();
        p.taken("the last YEAR", p.x.close(0, 399, 0, 10), 0);
        p.x.entry(0, 399, 5, 11);
        p.due("there is none behind it", p.x.balance(0, 399, LAST), 0);
        p.x.entry(0, 399, 6, 10);
        p.due("known on the DAY itself", p.x.balance(0, 399, LAST), 6);
    }
}
