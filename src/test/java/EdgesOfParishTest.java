/** Terms V, sentence by sentence: FACTS, where a SOUL BELONGS, ORDERS, APPEALS. */
public final class EdgesOfParishTest {
    private static final Probe p = new Probe();
    private static final int Y = 366;
    private static final int LAST = 146399;

    public static void main(String[] args) {
        birthByFacts();
        birthByMentions();
        hireAndOffice();
        rent();
        wedByDays();
        wedOfUnknownGroom();
        parentsOnThatDay();
        parentsUnknown();
        sixTimesByFathers();
        sixTimesByMothers();
        sixTimesMixed();
        groundsInOrder();
        groundsOfOthers();
        lacks();
        lawsFirst();
        ordersByParish();
        ordersByCertificate();
        appealsByDays();
        backByDays();
        p.finish("EdgesOfParishTest");
    }

    private static void where(String what, int mention, int day, int want) {
        p.due(what + " on " + day, p.x.belong(mention, day, LAST, 0), want);
    }

    /** "birth: a FACT of birth (from not behind d; the one told last)" */
    private static void birthByFacts() {
        p.fresh();
        p.line(3, 0, 5, "ann lee.");
        p.law("belong birth");
        where("none", 0, LAST, -1);
        p.x.fact(0, 0, 7, 1000, 2000, 0);
        where("from behind d", 0, 999, -1);
        where("from d on", 0, 1000, 7);
        where("behind its to, too", 0, LAST, 7);
        p.x.fact(0, 0, 8, 500, 500, 0);
        where("told last, though its from is ahead", 0, 1000, 8);
        p.x.fact(0, 0, 9, 3000, 3000, 0);
        where("told last, but from behind d", 0, 2999, 8);
        where("told last", 0, 3000, 9);
        for (int ground = 1; ground < 5; ground++) {
            p.x.fact(0, ground, 10, 0, 2000, 0);
        }
        where("of other GROUNDS", 0, 2999, 8);
        p.x.fact(0, 0, 0, 0, 0, 0);
        where("PARISH 0 by a FACT", 0, 0, 0);
    }

    /** "else 0, if it has a child's MENTION of a DAY not behind d" */
    private static void birthByMentions() {
        p.fresh();
        p.line(0, 0, 1000, 0, -1, "ann lee, bob lee, eve lee.");
        p.law("belong birth");
        where("not born yet", 0, 999, -1);
        where("born", 0, 1000, 0);
        where("born", 0, LAST, 0);
        where("a father is no child", 1, LAST, -1);
        p.x.fact(0, 0, 7, 2000, 2000, 0);
        where("a FACT that is not yet", 0, 1999, 0);
        where("a FACT comes first", 0, 2000, 7);
        p.due("by that CLAUSE", p.x.belong(0, 2000, LAST, 1), 0);
        p.due("LACKS nothing", p.x.belong(0, 2000, LAST, 2), 0);
    }

    /** "of 365 DAYS or more (to less from) that ended by d: .. that which ended last, of alike ones the one told last" */
    private static void hireAndOffice() {
        for (int ground = 1; ground <= 3; ground += 2) {
            p.fresh();
            p.line(3, 0, 5, "ann lee.");
            String name = ground == 1 ? "hire" : "office";
            p.law("belong " + name);
            p.x.fact(0, ground, 1, 1000, 1364, 0);
            where(name + " of 364", 0, LAST, -1);
            p.x.fact(0, ground, 2, 1000, 1365, 0);
            where(name + " not ended", 0, 1364, -1);
            where(name + " ended", 0, 1365, 2);
            p.x.fact(0, ground, 3, 0, 1365, 0);
            where(name + ", alike: told last", 0, LAST, 3);
            p.x.fact(0, ground, 4, 0, 1364, 0);
            where(name + ", ended a DAY ahead", 0, LAST, 3);
            where(name + ", ended a DAY ahead", 0, 1364, 4);
            p.x.fact(0, ground, 5, 1001, 1366, 0);
            where(name + ", ended a DAY behind", 0, LAST, 5);
            where(name + ", ended a DAY behind", 0, 1365, 3);
            p.x.fact(0, ground, 6, 0, LAST, 0);
            where(name + " to the last DAY", 0, LAST - 1, 5);
            where(name + " to the last DAY", 0, LAST, 6);
            p.x.fact(0, 4 - ground, 7, 0, LAST, 0);
            where(name + ", another GROUND", 0, LAST, 6);
        }
        p.fresh();
        p.line(3, 0, 5, "ann lee.");
        p.law("belong hire");
        p.x.fact(0, 1, 5, 0, 365, 0);
        where("from DAY 0", 0, 365, 5);
        where("from DAY 0", 0, 364, -1);
    }

    /** "rent: a FACT of rent that began 40 DAYS ahead of d at least: .. that began last, of alike ones told last" */
    private static void rent() {
        p.fresh();
        p.line(3, 0, 5, "ann lee.");
        p.law("belong rent");
        p.x.fact(0, 2, 1, 0, 0, 0);
        where("39 DAYS", 0, 39, -1);
        where("40 DAYS, though of one DAY", 0, 40, 1);
        p.x.fact(0, 2, 2, 1000, 5000, 0);
        where("39 DAYS", 0, 1039, 1);
        where("40 DAYS", 0, 1040, 2);
        p.x.fact(0, 2, 3, 999, 5000, 0);
        where("began a DAY ahead", 0, 1040, 2);
        where("began a DAY ahead", 0, 1039, 3);
        p.x.fact(0, 2, 4, 1000, 1000, 0);
        where("alike: told last", 0, 1040, 4);
        p.x.fact(0, 2, 5, LAST - 40, LAST, 0);
        where("the last DAY", 0, LAST, 5);
        where("the DAY ahead of it", 0, LAST - 1, 4);
        p.x.fact(0, 2, 6, LAST - 39, LAST, 0);
        where("39 DAYS ahead of the last", 0, LAST, 5);
    }

    /** "wed: a bride's MENTION of a DAY not behind d (the latest; of alike ones the higher)" */
    private static void wedByDays() {
        p.fresh();
        int[] days = {3000, 1000, 2000, 3000};
        String[] grooms = {"al", "bo", "cy", "di"};
        for (int n = 0; n < 4; n++) {
            p.line(1, 0, days[n], 0, -1, grooms[n] + " lee, eve fox.");
            p.x.fact(n * 3, 0, n + 1, 0, 0, 0);
            if (n > 0) {
                p.x.together(1, n * 3 + 1, n == 3 ? 500 : 0);
            }
        }
        p.law("belong wed;belong birth");
        where("not wed yet", 1, 999, -1);
        where("the only one", 1, 1000, 2);
        where("the only one", 1, 1999, 2);
        where("the latest", 1, 2000, 3);
        where("the latest", 1, 2999, 3);
        where("alike: the higher", 1, 3000, 4);
        p.due("the latest is the lowest MENTION, as known ahead", p.x.belong(1, 3000, 499, 0), 1);
        where("a groom is by himself", 0, 3000, 1);
        // Where he BELONGS on d, not on the wedding's DAY.
        p.x.fact(9, 0, 9, 4000, 4000, 0);
        where("on d", 1, 3999, 4);
        where("on d", 1, 4000, 9);
    }

    /** "a ROLE whose two NAMES are unknown gives none" */
    private static void wedOfUnknownGroom() {
        String[] grooms = {"?", "? ?", "al ?", "? lee", "a-?"};
        for (int n = 0; n < grooms.length; n++) {
            p.fresh();
            p.line(1, 1000, -1, grooms[n] + ", eve fox.");
            p.x.fact(0, 0, 5, 0, 0, 0);
            p.law("belong wed;belong birth");
            where("by " + grooms[n], 1, 1000, n < 2 ? -1 : 5);
            where(grooms[n] + " himself", 0, 1000, 5);
        }
    }

    /** "parents: its child's MENTION: where the father's SOUL BELONGS on that DAY, without it the mother's." */
    private static void parentsOnThatDay() {
        p.fresh();
        p.line(0, 1000, -1, "ann lee, bob lee, eve lee.");
        p.law("belong parents;belong rent");
        p.x.fact(2, 2, 8, 0, 0, 0);
        where("the father gives none: the mother's", 0, LAST, 8);
        p.x.fact(1, 2, 7, 961, 961, 0);
        where("39 DAYS ahead of the birth: none", 0, LAST, 8);
        p.x.fact(1, 2, 6, 960, 960, 0);
        where("40 DAYS ahead of the birth", 0, LAST, 6);
        where("on that DAY, not on d", 0, 0, 6);
        p.x.fact(1, 2, 5, 2000, 2000, 0);
        where("what came behind the birth", 0, LAST, 6);
        where("the father himself", 1, LAST, 5);
        p.x.fact(0, 2, 4, 0, 0, 0);
        where("parents come first by order", 0, LAST, 6);
        p.due("by CLAUSE 0", p.x.belong(0, LAST, LAST, 1), 0);
    }

    private static void parentsUnknown() {
        p.fresh();
        p.line(0, 1000, -1, "ann lee, ?, ? ?.");
        p.line(0, 1000, -1, "tom lee, ?, ? fox.");
        p.line(0, 1000, -1, "sue lee, bob ?.");
        p.law("belong parents;belong rent");
        for (int m = 1; m < 9; m++) {
            if (m % 3 > 0) {
                p.x.fact(m, 2, m, 0, 0, 0);
            }
        }
        where("both unknown", 0, LAST, -1);
        where("the father unknown: the mother's", 3, LAST, 5);
        where("one NAME is enough", 6, LAST, 7);
        p.due("LACKS", p.x.belong(0, LAST, LAST, 2), 36);
    }

    /** "(wed, parents within one another 6 times at most; deeper they give none ..)" */
    private static void sixTimesByFathers() {
        p.fresh();
        for (int n = 0; n < 9; n++) {
            p.line(0, (n + 1) * 20 * Y, -1, "bob lee, bob lee.");
            if (n > 0) {
                p.x.together(n * 3 + 1, n * 3 - 3, 0);
            }
        }
        p.law("belong parents;belong rent");
        p.x.fact(0, 2, 9, 0, 0, 0);
        for (int n = 0; n < 9; n++) {
            where("the FACT is " + n + " fathers away", n * 3, LAST, n <= 6 ? 9 : -1);
        }
    }

    private static void sixTimesByMothers() {
        p.fresh();
        for (int n = 0; n < 9; n++) {
            p.line(0, (n + 1) * 20 * Y, -1, "eve lee, bob lee, eve lee.");
            if (n > 0) {
                p.x.together(n * 3 + 2, n * 3 - 3, 0);
            }
        }
        p.law("belong parents;belong rent");
        p.x.fact(0, 2, 9, 0, 0, 0);
        for (int n = 0; n < 9; n++) {
            where("the FACT is " + n + " mothers away", n * 3, LAST, n <= 6 ? 9 : -1);
        }
    }

    /** A bride of a groom who is a son of a mother, and so on. */
    private static void sixTimesMixed() {
        p.fresh();
        int day = 20 * Y;
        p.line(0, day, -1, "eve lee, bob lee, eve lee.");
        int last = 0;
        for (int n = 1; n <= 7; n++) {
            day += 20 * Y;
            int line = n % 2 == 1 ? p.line(0, day, -1, "tom lee, bob lee, eve lee.") : p.line(1, day, -1, "tom lee, eve lee.");
            p.x.together(last, n % 2 == 1 ? line * 3 + 2 : line * 3, 0);
            last = n % 2 == 1 ? line * 3 : line * 3 + 1;
        }
        p.law("belong parents;belong wed;belong rent");
        p.x.fact(0, 2, 9, 0, 0, 0);
        int[] mentions = {0, 3, 7, 9, 13, 15, 19, 21};
        for (int n = 0; n < 8; n++) {
            where("the FACT is " + n + " away, by birth or wedding", mentions[n], LAST, n <= 6 ? 9 : -1);
        }
        // The last is a child: an ORDER of it is by that, too.
        int line = p.line(5, LAST, 9, "tom lee.");
        p.x.together(21, line * 3, 0);
        p.due("7 times: not GOOD", p.x.order(line, LAST, 0), 0);
    }

    /** "\"belong\" CLAUSES that HOLD, in order ..: the first whose GROUND gives a PARISH" */
    private static void groundsInOrder() {
        String[] grounds = {"birth", "hire", "rent", "office", "wed", "parents"};
        for (int last = 0; last < 5; last++) {
            // All six CLAUSES HOLD, the last of which alone gives one.
            p.fresh();
            p.line(1, 1000, -1, "al fox, eve fox.");
            StringBuilder text = new StringBuilder();
            for (int n = 1; n <= 6; n++) {
                text.append(n > 1 ? ";" : "").append("belong ").append(grounds[(last + n) % 6]);
            }
            p.law(text.toString());
            p.due("LACKS all six", p.x.belong(1, 2000, LAST, 2), 63);
            p.x.fact(last == 4 ? 0 : 1, last == 4 ? 2 : last, 7, 0, 400, 0);
            where("by " + grounds[last], 1, 2000, 7);
            p.due("by CLAUSE 5", p.x.belong(1, 2000, LAST, 1), 5);
            p.due("LACKS none", p.x.belong(1, 2000, LAST, 2), 0);
        }
        p.fresh();
        p.line(0, 1000, -1, "eve lee, bob lee, sue lee.");
        p.law("belong hire;belong rent;belong office;belong wed;belong birth if poor;belong parents");
        p.x.fact(1, 2, 7, 0, 400, 0);
        where("by parents, without birth", 0, 2000, 7);
        p.due("by CLAUSE 5", p.x.belong(0, 2000, LAST, 1), 5);
    }

    /** Another SOUL's GROUNDS, asked on the way, are nothing to the first one's. */
    private static void groundsOfOthers() {
        p.fresh();
        p.line(0, 1000, -1, "ann lee, bob lee.");
        p.line(4, 1000, 5, "bob lee.");
        p.x.together(1, 3, 0);
        p.law("belong parents;belong office if poor;belong wed if poor;belong birth if poor;belong hire;belong rent");
        p.x.fact(0, 1, 4, 0, 400, 0);
        p.x.fact(0, 2, 5, 0, 400, 0);
        where("by her own hire, behind a father who gives none", 0, LAST, 4);
        p.due("by CLAUSE 4", p.x.belong(0, LAST, LAST, 1), 4);
        p.due("the father LACKS", p.x.belong(1, 1000, LAST, 2), 63);
        p.fresh();
        p.line(0, 1000, -1, "ann lee, bob lee, eve lee.");
        p.law("belong parents;belong rent");
        p.due("NONE", p.x.belong(0, LAST, LAST, 1), -1);
        p.due("LACKS of her own", p.x.belong(0, LAST, LAST, 2), 36);
    }

    /** "LACKS then: those GROUNDS whose CLAUSES HOLD, as bits." */
    private static void lacks() {
        String[] grounds = {"birth", "hire", "rent", "office", "wed", "parents"};
        p.fresh();
        p.line(3, 0, 5, "ann lee.");
        p.due("no CLAUSES", p.x.belong(0, 0, 0, 2), 0);
        p.due("no CLAUSES: NONE", p.x.belong(0, 0, 0, 0), -1);
        int bits = 0;
        for (int n = 5; n >= 0; n--) {
            p.law("belong " + grounds[n] + ";belong " + grounds[n]);
            bits |= 1 << n;
            p.due("with " + grounds[n], p.x.belong(0, 0, 0, 2), bits);
        }
        p.word("strike 0 clause 0");
        p.due("the other one HOLDS", p.x.belong(0, 0, 0, 2), 63);
        p.word("strike 0 clause 1");
        p.due("without parents", p.x.belong(0, 0, 0, 2), 31);
        p.fresh();
        p.line(3, 0, 5, "ann lee.");
        p.law("belong birth if poor;belong hire unless poor;belong rent if 1/0=1");
        p.due("those that HOLD", p.x.belong(0, 0, 0, 2), 2);
    }

    private static void lawsFirst() {
        p.fresh();
        p.line(3, 0, 5, "ann lee.");
        for (int ground = 0; ground < 4; ground++) {
            p.x.fact(0, ground, ground + 1, 0, 400, 0);
        }
        p.text(1, 0, 0, "belong hire;belong office");
        where("a WORD", 0, 500, 2);
        p.text(0, 0, 0, "belong rent;belong birth");
        where("a LAW comes first", 0, 500, 3);
        p.due("by", p.x.belong(0, 500, LAST, 1), 12);
        p.text(0, 0, 0, "strike 1 clause 0");
        where("the next one", 0, 500, 1);
        p.due("by", p.x.belong(0, 500, LAST, 1), 13);
        p.text(0, 0, 0, "strike 1 clause 1");
        where("the first WORD", 0, 500, 2);
        where("that gives none yet: the next", 0, 399, -1);
    }

    /** "GOOD .., if the SOUL BELONGS on its DAY, as known on k, to the PARISH that it names" */
    private static void ordersByParish() {
        p.fresh();
        p.line(5, 0, 1000, 0, 1, "ann lee.");
        p.line(5, 0, 1000, 0, 11, "ann lee.");
        p.x.together(0, 3, 0);
        p.law("belong rent");
        p.due("it BELONGS nowhere", p.x.order(0, LAST, 0), 0);
        p.x.fact(0, 2, 11, 960, 960, 2000);
        p.due("as known a DAY ahead", p.x.order(1, 1999, 0), 0);
        p.due("GOOD", p.x.order(1, 2000, 0), 1);
        p.due("the other names another", p.x.order(0, 2000, 0), 0);
        p.x.fact(0, 2, 1, 961, 961, 0);
        p.due("39 DAYS ahead of the ORDER's", p.x.order(0, LAST, 0), 0);
        p.x.alter(0, 10);
        p.due("ALTERED to 11", p.x.order(0, LAST, 0), 1);
        p.x.alter(0, 11);
        p.x.fact(0, 2, 0, 960, 960, 0);
        p.due("ALTERED to 0, where it BELONGS", p.x.order(0, LAST, 0), 1);
    }

    /** "and either has no CERTIFICATE of that PARISH that has the DAY, or is poor on that DAY" */
    private static void ordersByCertificate() {
        int[][] certificates = {{3, 1000, 1000, 0}, {3, 0, 1000, 0}, {3, 1000, LAST, 0}, {3, 0, 999, 1}, {3, 1001, LAST, 1}, {4, 0, LAST, 1},
            {0, 0, LAST, 1}};
        for (int[] one : certificates) {
            p.fresh();
            p.line(5, 0, 1000, 0, 3, "ann lee.");
            p.law("belong rent");
            p.x.fact(0, 2, 3, 0, 0, 0);
            p.x.fact(0, 4, one[0], one[1], one[2], 500);
            p.due("GOOD by " + one[0] + " " + one[1] + " .. " + one[2], p.x.order(0, LAST, 0), one[3]);
            p.due("the CERTIFICATE not known", p.x.order(0, 499, 0), 1);
        }
        int[][] reliefs = {{634, 5, 0}, {635, 5, 1}, {1000, 5, 1}, {1001, 5, 0}, {1000, 0, 0}, {635, 1, 1}};
        for (int[] one : reliefs) {
            p.fresh();
            p.line(5, 0, 1000, 0, 3, "ann lee.");
            p.line(4, 0, one[0], 0, one[1], "ann lee.");
            p.x.together(0, 3, 700);
            p.law("belong rent");
            p.x.fact(0, 2, 3, 0, 0, 0);
            p.x.fact(0, 4, 3, 0, LAST, 0);
            p.due("relief of " + one[1] + " on " + one[0], p.x.order(0, LAST, 0), one[2]);
            p.due("not known", p.x.order(0, 699, 0), 0);
        }
    }

    /** "of an ORDER, a DAY not ahead of it"; "UNDONE .. of which an APPEAL is known and that is not GOOD" */
    private static void appealsByDays() {
        p.fresh();
        p.line(5, 0, 1000, 0, 3, "ann lee.");
        p.line(5, 0, 1000, 0, 3, "bob lee.");
        p.refused("a DAY ahead", p.x.appeal(0, 999, 0), -1);
        p.taken("on its DAY", p.x.appeal(0, 1000, 500), 1);
        p.due("the APPEAL not known", p.x.order(0, 499, 1), 0);
        p.due("known", p.x.order(0, 500, 1), 1);
        p.due("none of the other", p.x.order(1, LAST, 1), 0);
        p.law("belong rent");
        p.x.fact(0, 2, 3, 0, 0, 600);
        p.due("not GOOD as known", p.x.order(0, 599, 1), 1);
        p.due("GOOD: not UNDONE", p.x.order(0, 600, 1), 0);
        p.due("GOOD", p.x.order(0, 600, 0), 1);
        p.taken("on the last DAY", p.x.appeal(1, LAST, 0), 2);
        p.due("UNDONE", p.x.order(1, 0, 1), 1);
    }

    /** "BACK comes the relief of its SOUL of DAYS from the ORDER's to the first such APPEAL's (told first), as known." */
    private static void backByDays() {
        p.fresh();
        p.line(5, 0, 1000, 0, 3, "ann lee.");
        int[] days = {999, 1000, 1500, 2000, 2001};
        int[] pence = {1, 10, 100, 1000, 10000};
        for (int n = 0; n < 5; n++) {
            int line = p.line(4, 0, days[n], n == 2 ? 800 : 0, pence[n], "ann lee.");
            p.x.together(0, line * 3, 0);
        }
        p.line(3, 0, 1500, 0, 50000, "ann lee.");
        p.x.together(0, 18, 0);
        p.due("no APPEAL", p.x.order(0, LAST, 2), 0);
        p.x.appeal(0, 2000, 600);
        p.x.appeal(0, 1000, 500);
        p.x.appeal(0, LAST, 0);
        p.due("the one known", p.x.order(0, 499, 2), 11010);
        p.due("the first told of two", p.x.order(0, 500, 2), 10);
        p.due("the first told of three", p.x.order(0, 600, 2), 1010);
        p.due("a relief known later", p.x.order(0, 799, 2), 1010);
        p.due("a relief known", p.x.order(0, 800, 2), 1110);
        p.law("belong rent");
        p.x.fact(0, 2, 3, 0, 0, 0);
        p.due("0 of one that is not UNDONE", p.x.order(0, LAST, 2), 0);
    }
}
