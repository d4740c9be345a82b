/** Promises 32 to 35: FACTS, where a SOUL BELONGS, ORDERS and APPEALS. */
public final class SettlementTest {
    private static final Probe p = new Probe();
    private static final int Y = 366;
    private static final int LAST = 146399;

    public static void main(String[] args) {
        facts();
        birth();
        hireAndOffice();
        rent();
        wed();
        parents();
        depth();
        ordering();
        belongWrong();
        orders();
        certificates();
        appeals();
        p.finish("SettlementTest");
    }

    private static int where(int mention, int day) {
        return p.x.belong(mention, day, LAST, 0);
    }

    private static void facts() {
        p.fresh();
        p.line(3, 0, 0, "ann lee.");
        p.refused("ground -1", p.x.fact(99, -1, 0, 0, 0, 0), -1);
        p.refused("ground 5", p.x.fact(0, 5, 0, 0, 0, 0), -1);
        p.refused("parish -1", p.x.fact(0, 0, -1, 0, 0, 0), -1);
        p.refused("parish 12", p.x.fact(0, 0, 12, 0, 0, 0), -1);
        p.refused("from -1", p.x.fact(0, 0, 0, -1, 0, 0), -1);
        p.refused("to 146400", p.x.fact(0, 0, 0, 0, 146400, 0), -1);
        p.refused("to ahead of from", p.x.fact(0, 0, 0, 5, 4, 0), -1);
        p.refused("known -1", p.x.fact(0, 0, 0, 0, 0, -1), -1);
        p.refused("known 146400", p.x.fact(0, 0, 0, 0, 0, 146400), -1);
        p.refused("MENTION", p.x.fact(1, 0, 0, 0, 0, 0), -2);
        p.refused("MENTION", p.x.fact(-1, 0, 0, 0, 0, 0), -2);
        for (int n = 1; n <= 100; n++) {
            p.taken("fact " + n, p.x.fact(0, n % 5, n % 12, 7, 7, 7), n);
        }
        p.refused("the 101st", p.x.fact(0, 0, 0, 0, 0, 0), -5);
        p.refused("-2 first", p.x.fact(1, 0, 0, 0, 0, 0), -2);
        p.due("count(2)", p.x.count(2), 100);
        p.due("count(4)", p.x.count(4), 101);
    }

    private static void birth() {
        p.fresh();
        p.line(0, 1000, -1, "ann lee.");
        p.line(3, 1000, 5, "bob lee.");
        p.law("belong birth");
        p.due("born here", where(0, 1000), 0);
        p.due("not yet born", where(0, 999), -1);
        p.due("not born here", where(3, 2000), -1);
        p.x.fact(0, 0, 7, 500, 500, 0);
        p.due("by a FACT", where(0, 1000), 7);
        p.due("by a FACT, ahead of the MENTION", where(0, 500), 7);
        p.due("not ahead of its from", where(0, 499), -1);
        p.x.fact(0, 0, 8, 600, 600, 3000);
        p.due("the one told last", where(0, 1000), 8);
        p.due("from behind d", where(0, 599), 7);
        p.due("as known", p.x.belong(0, 1000, 2999, 0), 7);
        p.x.fact(0, 0, 9, 400, 400, 0);
        p.due("the one told last, though earlier", where(0, 1000), 9);
        p.due("of others", where(3, 2000), -1);
        p.x.fact(3, 1, 4, 0, 2000, 0);
        p.due("another GROUND", where(3, 2000), -1);
    }

    private static void hireAndOffice() {
        for (int ground = 1; ground <= 3; ground += 2) {
            String name = ground == 1 ? "hire" : "office";
            p.fresh();
            p.line(3, 0, 0, "ann lee.");
            p.law("belong " + name);
            p.x.fact(0, ground, 3, 1000, 1364, 0);
            p.due(name + " of 364 DAYS", where(0, 5000), -1);
            p.x.fact(0, ground, 4, 1000, 1365, 0);
            p.due(name + " of 365 DAYS", where(0, 5000), 4);
            p.due(name + ": ended by d", where(0, 1365), 4);
            p.due(name + ": not ended", where(0, 1364), -1);
            p.x.fact(0, ground, 5, 900, 1300, 0);
            p.due(name + ": told last, ended earlier", where(0, 5000), 4);
            p.due(name + ": the one that ended by then", where(0, 1300), 5);
            p.x.fact(0, ground, 6, 500, 1365, 0);
            p.due(name + ": alike ones: told last", where(0, 5000), 6);
            p.x.fact(0, ground, 7, 2000, 2400, 4000);
            p.due(name + ": ended last", where(0, 5000), 7);
            p.due(name + ": as known", p.x.belong(0, 5000, 3999, 0), 6);
            p.x.fact(0, 4 - ground, 8, 2000, 3000, 0);
            p.due(name + ": the other GROUND", where(0, 5000), 7);
            p.due(name + ": by", p.x.belong(0, 5000, LAST, 1), 0);
        }
    }

    private static void rent() {
        p.fresh();
        p.line(3, 0, 0, "ann lee.");
        p.law("belong rent");
        p.x.fact(0, 2, 3, 1000, 1001, 0);
        p.due("39 DAYS", where(0, 1039), -1);
        p.due("40 DAYS", where(0, 1040), 3);
        p.x.fact(0, 2, 4, 900, 9000, 0);
        p.due("began last", where(0, 1040), 3);
        p.due("began by then", where(0, 1039), 4);
        p.x.fact(0, 2, 5, 1000, 9000, 0);
        p.due("alike ones: told last", where(0, 1040), 5);
    }

    private static void wed() {
        p.fresh();
        p.line(1, 1000, -1, "bob lee, ann fox.");
        p.line(1, 2000, -1, "tom may, ann lee.");
        p.line(1, 2000, -1, "jim may, ann lee.");
        p.line(1, 3000, -1, "?, ann may.");
        p.x.together(1, 4, 0);
        p.x.together(1, 10, 0);
        p.law("belong wed;belong birth");
        p.x.fact(0, 0, 3, 0, 0, 0);
        p.x.fact(3, 0, 4, 0, 0, 0);
        p.x.fact(6, 0, 5, 0, 0, 0);
        p.x.fact(9, 0, 6, 0, 0, 0);
        p.due("not yet", where(1, 999), -1);
        p.due("where he does", where(1, 1000), 3);
        p.due("the latest", where(1, 2000), 4);
        p.due("the groom by himself", where(0, 1000), 3);
        p.due("a ROLE without NAMES gives none", where(1, 3000), -1);
        p.due("LACKS", p.x.belong(1, 3000, LAST, 2), 17);
        p.x.together(1, 7, 0);
        p.due("alike ones: the higher", where(1, 2000), 5);
        p.due("by her own CLAUSE", p.x.belong(1, 2000, LAST, 1), 0);
        p.due("by his own CLAUSE", p.x.belong(6, 2000, LAST, 1), 1);
    }

    private static void parents() {
        p.fresh();
        p.line(0, 1000, -1, "ann lee, bob lee, eve lee.");
        p.line(0, 1000, -1, "tom lee, ?, may lee.");
        p.law("belong parents;belong rent;belong birth unless age < 1");
        p.x.fact(1, 2, 3, 900, 900, 0);
        p.x.fact(1, 2, 4, 2000, 2000, 0);
        p.due("the father's on the birth's DAY", where(0, 5000), 3);
        p.due("d does not matter", where(0, 100), 3);
        p.due("the father himself", where(1, 5000), 4);
        p.x.fact(5, 2, 7, 900, 900, 0);
        p.due("the mother's", where(3, 5000), 7);
        p.x.fact(2, 2, 8, 900, 900, 0);
        p.due("the father's is first", where(0, 5000), 3);
        p.fresh();
        p.line(0, 1000, -1, "ann lee, bob lee, eve lee.");
        p.law("belong parents;belong rent");
        p.x.fact(2, 2, 8, 900, 900, 0);
        p.due("without the father's the mother's", where(0, 5000), 8);
        p.due("LACKS of the father", p.x.belong(1, 5000, LAST, 2), 36);
        p.due("LACKS is 0 of one that BELONGS", p.x.belong(0, 5000, LAST, 2), 0);
    }

    /** Sons of sons: the first of them has a FACT, wed and parents go 6 times at most. */
    private static void depth() {
        p.fresh();
        for (int n = 0; n < 8; n++) {
            p.line(0, (n + 1) * 20 * Y, -1, "a" + (char) ('a' + n) + " lee, a" + (char) ('a' + n - 1 < 'a' ? 'z' : 'a' + n - 1) + " lee.");
            if (n > 0) {
                p.x.together(n * 3 + 1, (n - 1) * 3, 0);
            }
        }
        p.law("belong parents;belong rent");
        p.x.fact(0, 2, 9, 0, 0, 0);
        p.due("himself", where(0, 10 * Y), 9);
        p.due("his son", where(3, LAST), 9);
        p.due("6 times", where(18, LAST), 9);
        p.due("7 times", where(21, LAST), -1);
        p.due("7 times: LACKS", p.x.belong(21, LAST, LAST, 2), 36);
        p.text(1, 0, 0, "belong wed");
        for (int n = 5; n <= 6; n++) {
            int line = p.line(1, 200 * Y, -1, "a" + (char) ('a' + n) + " lee, eve fox.");
            p.x.together(n * 3, line * 3, 0);
            p.due("wed, and " + n + " times", where(line * 3 + 1, 200 * Y), n == 5 ? 9 : -1);
        }
        for (int n = 6; n <= 7; n++) {
            int line = p.line(5, 210 * Y, 9, "a" + (char) ('a' + n) + " lee.");
            p.x.together(n * 3, line * 3, 0);
            p.due("an ORDER by " + n + " times", p.x.order(line, LAST, 0), n == 6 ? 1 : 0);
        }
    }

    private static void ordering() {
        p.fresh();
        p.line(0, 1000, -1, "ann lee.");
        p.text(1, 0, 0, "belong hire;belong birth if age > 100");
        p.text(0, 0, 0, "belong birth unless poor;belong rent");
        p.x.fact(0, 1, 3, 0, 2000, 0);
        p.x.fact(0, 2, 4, 0, 2000, 0);
        p.due("LAWS first", where(0, 3000), 0);
        p.due("by", p.x.belong(0, 3000, LAST, 1), 12);
        p.line(4, 3000, 5, "ann lee.");
        p.x.together(0, 3, 0);
        p.due("that does not HOLD: the next", where(0, 3000), 4);
        p.due("by", p.x.belong(0, 3000, LAST, 1), 13);
        p.text(1, 0, 0, "strike 1 clause 1");
        p.due("struck: WORDS", where(0, 3000), 3);
        p.due("by", p.x.belong(0, 3000, LAST, 1), 0);
        p.text(1, 0, 0, "strike 0 clause 0;belong office;belong wed if poor");
        p.due("none", where(0, 3000), -1);
        p.due("by none", p.x.belong(0, 3000, LAST, 1), -1);
        p.due("LACKS those that HOLD", p.x.belong(0, 3000, LAST, 2), 24);
    }

    private static void belongWrong() {
        p.fresh();
        p.line(0, 1000, -1, "ann lee.");
        p.law("belong birth");
        p.due("no MENTION", p.x.belong(3, 0, 0, 0), -1);
        p.due("no MENTION", p.x.belong(-1, 0, 0, 0), -1);
        p.due("not known", p.x.belong(0, 1000, 999, 0), -1);
        p.due("not known", p.x.belong(0, 1000, 999, 2), -1);
        p.due("no DAY", p.x.belong(0, -1, 1000, 0), -1);
        p.due("no DAY", p.x.belong(0, 146400, 1000, 0), -1);
        p.due("no DAY", p.x.belong(0, 1000, 146400, 0), -1);
        p.due("what", p.x.belong(0, 1000, 1000, 3), -1);
        p.due("what", p.x.belong(0, 1000, 1000, -1), -1);
        p.due("fine", p.x.belong(0, 1000, 1000, 0), 0);
    }

    private static void orders() {
        p.fresh();
        p.law("belong rent");
        p.line(5, 0, 1000, 1100, 3, "ann lee.");
        p.line(3, 1000, 5, "ann lee.");
        p.due("not GOOD", p.x.order(0, 1100, 0), 0);
        p.due("not UNDONE", p.x.order(0, 1100, 1), 0);
        p.due("no BACK", p.x.order(0, 1100, 2), 0);
        p.due("not known", p.x.order(0, 1099, 0), -1);
        p.due("no ORDER", p.x.order(1, 1100, 0), -1);
        p.due("no LINE", p.x.order(2, 1100, 0), -1);
        p.due("no LINE", p.x.order(-1, 1100, 0), -1);
        p.due("no DAY", p.x.order(0, -1, 0), -1);
        p.due("no DAY", p.x.order(0, 146400, 0), -1);
        p.due("what", p.x.order(0, 1100, 3), -1);
        p.due("what", p.x.order(0, 1100, -1), -1);
        p.x.fact(0, 2, 3, 960, 960, 2000);
        p.due("GOOD", p.x.order(0, 2000, 0), 1);
        p.due("not as known ahead", p.x.order(0, 1999, 0), 0);
        p.x.fact(0, 2, 4, 960, 960, 2500);
        p.due("another PARISH", p.x.order(0, 2500, 0), 0);
        p.x.fact(0, 2, 3, 961, 961, 2500);
        p.due("not on its DAY", p.x.order(0, 2500, 0), 0);
    }

    private static void certificates() {
        p.fresh();
        p.law("belong rent");
        p.line(5, 1000, 3, "ann lee.");
        p.x.fact(0, 2, 3, 0, 0, 0);
        p.x.fact(0, 4, 4, 0, 2000, 0);
        p.due("a CERTIFICATE of another PARISH", p.x.order(0, 1000, 0), 1);
        p.x.fact(0, 4, 3, 1001, 2000, 0);
        p.due("one of another DAY", p.x.order(0, 1000, 0), 1);
        p.x.fact(0, 4, 3, 1000, 1000, 500);
        p.due("one that has the DAY", p.x.order(0, 1000, 0), 0);
        p.line(4, 0, 635, 3000, 1, "ann lee.");
        p.x.together(0, 3, 0);
        p.due("poor on that DAY", p.x.order(0, 3000, 0), 1);
        p.due("not as known ahead", p.x.order(0, 2999, 0), 0);
        p.fresh();
        p.law("belong rent");
        p.line(5, 1000, 3, "ann lee.");
        p.x.fact(0, 2, 3, 0, 0, 0);
        p.x.fact(0, 4, 3, 1000, 1000, 500);
        p.line(4, 0, 634, 634, 1, "ann lee.");
        p.x.together(0, 3, 0);
        p.due("366 DAYS ahead: not poor", p.x.order(0, 3000, 0), 0);
    }

    private static void appeals() {
        p.fresh();
        p.law("belong rent");
        p.line(5, 0, 1000, 1000, 3, "ann lee.");
        p.line(4, 0, 999, 999, 1, "ann lee.");
        p.line(4, 0, 1000, 1000, 10, "ann lee.");
        p.line(4, 0, 1100, 1100, 100, "ann lee.");
        p.line(4, 0, 1101, 1101, 1000, "ann lee.");
        for (int m = 3; m <= 12; m += 3) {
            p.x.together(0, m, 0);
        }
        p.refused("DAY", p.x.appeal(9, -1, 0), -1);
        p.refused("DAY", p.x.appeal(0, 146400, 0), -1);
        p.refused("known", p.x.appeal(0, 1000, -1), -1);
        p.refused("known", p.x.appeal(0, 1000, 146400), -1);
        p.refused("no LINE", p.x.appeal(5, 0, 0), -2);
        p.refused("no LINE", p.x.appeal(-1, 0, 0), -2);
        p.refused("no ORDER", p.x.appeal(1, 0, 0), -2);
        p.refused("ahead of the ORDER", p.x.appeal(0, 999, 0), -1);
        p.due("not UNDONE", p.x.order(0, 5000, 1), 0);
        p.taken("appeal", p.x.appeal(0, 1100, 1500), 1);
        p.taken("appeal, of an earlier DAY", p.x.appeal(0, 1000, 1400), 2);
        p.due("count(9)", p.x.count(9), 2);
        p.due("UNDONE", p.x.order(0, 1500, 1), 1);
        p.due("BACK: to the one told first", p.x.order(0, 1500, 2), 110);
        p.due("BACK as known", p.x.order(0, 1400, 2), 10);
        p.due("not as known ahead", p.x.order(0, 1399, 1), 0);
        p.due("not as known ahead", p.x.order(0, 1399, 2), 0);
        p.x.fact(0, 2, 3, 0, 0, 1500);
        p.due("GOOD: not UNDONE", p.x.order(0, 1500, 1), 0);
        p.due("GOOD: no BACK", p.x.order(0, 1500, 2), 0);
        p.due("not known to be GOOD", p.x.order(0, 1499, 1), 1);
        for (int n = 3; n <= 40; n++) {
            p.due("appeal " + n, p.x.appeal(0, 1000, 0), n);
        }
        p.refused("the 41st", p.x.appeal(0, 1000, 0), -5);
        p.refused("-1 ahead of the ORDER first", p.x.appeal(0, 999, 0), -1);
    }
}
