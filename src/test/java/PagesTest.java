/** Promises 25 and 26: PAGES TORN, and what they must, may, should have held. */
public final class PagesTest {
    private static final Probe p = new Probe();
    private static final int Y = 366;

    public static void main(String[] args) {
        torn();
        leastOfBirths();
        leastOfBurials();
        most();
        guessed();
        wrong();
        p.finish("PagesTest");
    }

    private static void torn() {
        p.fresh();
        p.refused("BOOK -1", p.x.torn(-1, 0, 0, 0), -1);
        p.refused("BOOK 6", p.x.torn(6, 0, 0, 0), -1);
        p.refused("from -1", p.x.torn(0, -1, 0, 0), -1);
        p.refused("to 146400", p.x.torn(0, 0, 146400, 0), -1);
        p.refused("to ahead of from", p.x.torn(0, 5, 4, 0), -1);
        p.refused("known -1", p.x.torn(0, 0, 0, -1), -1);
        p.refused("known 146400", p.x.torn(0, 0, 0, 146400), -1);
        for (int n = 1; n <= 20; n++) {
            p.taken("torn " + n, p.x.torn(n % 6, 5, 5, n), n);
        }
        p.refused("the 21st", p.x.torn(0, 0, 0, 0), -5);
        p.refused("-1 first", p.x.torn(6, 0, 0, 0), -1);
    }

    private static int least(int book, int from, int to, int known) {
        return p.x.fill(book, from, to, known, 0);
    }

    private static void leastOfBirths() {
        p.fresh();
        // Dead in YEAR 100 of AGE 30: BORN from the first DAY of YEAR 68 to the last of YEAR 72.
        p.line(2, 100 * Y, 30, "ann lee.");
        int b = 68 * Y;
        int c = 72 * Y + 365;
        p.due("just within", least(0, b, c, 100 * Y), 1);
        p.due("not from", least(0, b + 1, c, 100 * Y), 0);
        p.due("not to", least(0, b, c - 1, 100 * Y), 0);
        p.due("not known", least(0, b, c, 100 * Y - 1), 0);
        p.due("of weddings 0", least(1, 0, 146399, 146399), 0);
        p.line(2, 0, 100 * Y, 100 * Y + 5, 29, "bob lee.");
        p.due("two", least(0, b, c + Y, 100 * Y + 5), 2);
        p.due("one as known", least(0, b, c + Y, 100 * Y + 4), 1);
        p.line(0, 70 * Y, -1, "ann lee.");
        p.x.together(0, 6, 120 * Y);
        p.due("a child's MENTION has it", least(0, b, c, 120 * Y), 0);
        p.due("not ahead of that", least(0, b, c, 120 * Y - 1), 1);
        // The child's own father and mother (of no NAMES, too) are SOULS.
        p.due("all born within all DAYS", least(0, 0, 146399, 120 * Y), 3);
    }

    private static void leastOfBurials() {
        p.fresh();
        p.line(0, 10 * Y, -1, "ann lee.");
        int f = 10 * Y + 110 * Y;
        p.due("a child's DIED", least(2, 10 * Y, f, 200 * Y), 2);
        // The mother's e is that DAY, too, her f is 96 YEARS behind; the father's e is a YEAR ahead.
        p.due("not to", least(2, 10 * Y, f - 1, 200 * Y), 1);
        p.due("not from", least(2, 10 * Y + 1, f, 200 * Y), 0);
        p.due("the father, too", least(2, 9 * Y, f, 200 * Y), 3);
        p.line(2, 50 * Y, 40, "ann lee.");
        p.due("the dead's own is none", least(2, 10 * Y, f, 200 * Y), 2);
        p.x.together(0, 3, 0);
        p.due("a dead's MENTION has it", least(2, 10 * Y, f, 200 * Y), 1);
        // e behind f: it can't lie anywhere.
        p.fresh();
        p.line(2, 10 * Y, 120, "old one.");
        p.line(3, 5 * Y, 0, "old one.");
        p.due("DIED of one who paid", least(2, 5 * Y, 146399, 146399), 1);
        p.x.together(0, 3, 0);
        p.due("the dead's is none", least(2, 0, 146399, 146399), 0);
    }

    private static void most() {
        p.fresh();
        int[] days = {100, 105, 109, 200, 201, 202, 203, 300};
        for (int day : days) {
            p.line(1, 0, day, day, -1, "?.");
        }
        p.due("ten DAYS", p.x.fill(1, 1000, 1009, 1000, 1), 4);
        p.due("one DAY", p.x.fill(1, 1000, 1000, 1000, 1), 1);
        p.due("three DAYS", p.x.fill(1, 1000, 1002, 1000, 1), 3);
        p.due("101 DAYS", p.x.fill(1, 1000, 1100, 1000, 1), 6);
        p.due("104 DAYS", p.x.fill(1, 1000, 1103, 1000, 1), 7);
        p.due("as known", p.x.fill(1, 1000, 1009, 201, 1), 3);
        p.due("another BOOK", p.x.fill(3, 1000, 1009, 1000, 1), 0);
        p.x.torn(1, 203, 203, 500);
        p.due("a DAY of those is TORN", p.x.fill(1, 1000, 1009, 500, 1), 3);
        p.due("not known to be", p.x.fill(1, 1000, 1009, 499, 1), 4);
        p.due("windows that end ahead of it", p.x.fill(1, 1000, 1002, 500, 1), 3);
        p.x.torn(2, 0, 146399, 0);
        p.due("another BOOK's pages", p.x.fill(1, 1000, 1009, 500, 1), 3);
        p.x.torn(1, 110, 110, 0);
        p.due("a DAY just behind the window", p.x.fill(1, 1000, 1009, 500, 1), 3);
        p.x.torn(1, 108, 108, 0);
        p.due("a DAY within it", p.x.fill(1, 1000, 1009, 500, 1), 1);
        p.x.torn(1, 0, 146399, 0);
        p.due("all TORN", p.x.fill(1, 1000, 1009, 500, 1), 0);
        // LEAST at least.
        p.fresh();
        p.line(2, 100 * Y, 30, "ann lee.");
        p.line(2, 100 * Y, 30, "bob lee.");
        p.due("LEAST at least", p.x.fill(0, 68 * Y, 72 * Y + 365, 100 * Y, 1), 2);
        p.fresh();
        p.line(1, 146399, -1, "?.");
        p.due("behind the last DAY", p.x.fill(1, 0, 100, 146399, 1), 1);
    }

    private static void guessed() {
        p.fresh();
        int from = 50 * Y;
        for (int n = 0; n < 10; n++) {
            p.line(4, 0, from - 1 - n * 100, 60 * Y, 5, "?.");
        }
        p.line(4, 0, from - 3660, 60 * Y, 5, "?.");
        p.line(4, 0, from - 3661, 60 * Y, 5, "?.");
        p.line(4, 0, from, 60 * Y, 5, "?.");
        p.line(4, 0, from + 3660, 60 * Y, 5, "?.");
        p.line(4, 0, from + 3661, 60 * Y, 5, "?.");
        // One DAY .. : 12 LINES on 7320 DAYS; 610 DAYS would have held one.
        p.due("one DAY", p.x.fill(4, from, from, 60 * Y, 2), 0);
        p.fresh();
        for (int n = 0; n < 12; n++) {
            p.line(4, 0, from - 1, 60 * Y, 5, "?.");
        }
        p.due("304 DAYS: below a half", p.x.fill(4, from, from + 303, 60 * Y, 2), 0);
        p.due("305 DAYS: halves up", p.x.fill(4, from, from + 304, 60 * Y, 2), 1);
        p.due("914 DAYS", p.x.fill(4, from, from + 913, 60 * Y, 2), 1);
        p.due("915 DAYS", p.x.fill(4, from, from + 914, 60 * Y, 2), 2);
        p.due("as known", p.x.fill(4, from, from + 914, 60 * Y - 1, 2), 0);
        p.due("another BOOK", p.x.fill(3, from, from + 914, 60 * Y, 2), 0);
        p.due("from the LINES' DAY on", p.x.fill(4, from - 1, from + 914, 60 * Y, 2), 0);
        p.due("3660 DAYS behind them", p.x.fill(4, from + 3659, from + 3659 + 914, 60 * Y, 2), 2);
        p.due("3661 DAYS behind them", p.x.fill(4, from + 3660, from + 3660 + 914, 60 * Y, 2), 0);
        p.x.torn(4, from - 3660, from - 2, 60 * Y);
        // 3659 DAYS are TORN: 12 on 3661 DAYS.
        p.due("152 DAYS", p.x.fill(4, from, from + 151, 60 * Y, 2), 0);
        p.due("153 DAYS", p.x.fill(4, from, from + 152, 60 * Y, 2), 1);
        p.x.torn(4, from + 5000, from + 6000, 60 * Y);
        p.x.torn(4, from - 2000, from - 500, 60 * Y);
        p.due("152 DAYS, pages that overlap or are away", p.x.fill(4, from, from + 151, 60 * Y, 2), 0);
        p.due("153 DAYS, pages that overlap or are away", p.x.fill(4, from, from + 152, 60 * Y, 2), 1);
        p.x.torn(4, from - 1, from - 1, 60 * Y);
        p.due("the LINES' own DAY is TORN", p.x.fill(4, from, from + 3000, 60 * Y, 2), 0);
        // Six pages with DAYS between them: 6 * 50 of 3660 and 3660.
        p.fresh();
        for (int n = 0; n < 6; n++) {
            p.x.torn(4, from - 100 * (6 - n), from - 100 * (6 - n) + 49, 0);
        }
        p.line(4, from - 1, 5, "?.");
        p.due("7020 DAYS: 3509 would have held none", p.x.fill(4, from, from + 3508, 60 * Y, 2), 0);
        p.due("7020 DAYS: 3510 would have held one", p.x.fill(4, from, from + 3509, 60 * Y, 2), 1);
        p.x.torn(4, from + 4000, from + 4000 + 1999, 0);
        p.due("5020 DAYS: 2509", p.x.fill(4, from, from + 2508, 60 * Y, 2), 0);
        p.due("5020 DAYS: 2510", p.x.fill(4, from, from + 2509, 60 * Y, 2), 1);
        p.line(4, from + 2510, 5, "?.");
        p.due("a LINE on the DAY behind", p.x.fill(4, from, from + 2509, 60 * Y, 2), 1);
        p.due("a LINE on the last DAY itself", p.x.fill(4, from, from + 2510, 60 * Y, 2), 1);
        p.due("a LINE on the DAY behind, of 3765", p.x.fill(4, from - 1255, from + 2509, 60 * Y, 2), 1);
        // The first and the last DAY that count: 1 on 7320 DAYS, of 3660.
        for (int more = -1; more <= 1; more++) {
            p.fresh();
            p.line(4, 0, from + 3659 + 3660 + more, 60 * Y, 5, "?.");
            p.due("3660 DAYS behind, " + more, p.x.fill(4, from, from + 3659, 60 * Y, 2), more > 0 ? 0 : 1);
            p.fresh();
            p.line(4, 0, from - 3660 - more, 60 * Y, 5, "?.");
            p.due("3660 DAYS ahead, " + more, p.x.fill(4, from, from + 3659, 60 * Y, 2), more > 0 ? 0 : 1);
        }
        // Pages of one DAY, with DAYS of one between: 7317 DAYS whole.
        p.fresh();
        p.x.torn(4, from - 10, from - 10, 0);
        p.x.torn(4, from - 8, from - 8, 0);
        p.x.torn(4, from - 6, from - 6, 0);
        p.line(4, 0, from - 1, 60 * Y, 5, "?.");
        p.due("3658 of 7317", p.x.fill(4, from, from + 3657, 60 * Y, 2), 0);
        p.due("3659 of 7317", p.x.fill(4, from, from + 3658, 60 * Y, 2), 1);
        // As far as there are DAYS: 10 ahead, none behind.
        p.fresh();
        p.line(4, 0, 5, 5, 5, "?.");
        p.due("ten DAYS ahead", p.x.fill(4, 10, 146399, 5, 2), 14639);
        p.due("all DAYS: none around", p.x.fill(4, 0, 146399, 5, 2), 0);
        p.x.torn(4, 0, 9, 5);
        p.due("none that isn't TORN", p.x.fill(4, 10, 146399, 5, 2), 0);
    }

    private static void wrong() {
        p.fresh();
        p.due("BOOK -1", p.x.fill(-1, 0, 0, 0, 0), -1);
        p.due("BOOK 6", p.x.fill(6, 0, 0, 0, 0), -1);
        p.due("from -1", p.x.fill(0, -1, 0, 0, 0), -1);
        p.due("to 146400", p.x.fill(0, 0, 146400, 0, 0), -1);
        p.due("to ahead of from", p.x.fill(0, 2, 1, 0, 0), -1);
        p.due("known -1", p.x.fill(0, 0, 0, -1, 0), -1);
        p.due("known 146400", p.x.fill(0, 0, 0, 146400, 0), -1);
        p.due("what -1", p.x.fill(0, 0, 0, 0, -1), -1);
        p.due("what 3", p.x.fill(0, 0, 0, 0, 3), -1);
        p.due("nothing", p.x.fill(0, 0, 0, 0, 0), 0);
        p.due("nothing", p.x.fill(0, 0, 0, 0, 1), 0);
        p.due("nothing", p.x.fill(0, 0, 0, 0, 2), 0);
    }
}
