/** Promises 10 to 19: terms, REASONS, WORTH, APART, TOGETHER, SOULS, KIN, SPANS. */
public final class SoulsTest {
    private static final Probe p = new Probe();
    private static final int Y = 366;

    public static void main(String[] args) {
        terms();
        reasons();
        agesOfLife();
        likeness();
        worth();
        worthOfKin();
        foldedAway();
        apart();
        together();
        waits();
        mentions();
        kin();
        spans();
        p.finish("SoulsTest");
    }

    private static void terms() {
        p.fresh();
        p.taken("terms", p.x.terms(0, 100, 0, 100, 20), 0);
        p.refused("given -1", p.x.terms(-1, 0, 0, 0, 0), -1);
        p.refused("given 101", p.x.terms(101, 0, 0, 0, 0), -1);
        p.refused("family -1", p.x.terms(0, -1, 0, 0, 0), -1);
        p.refused("family 101", p.x.terms(0, 101, 0, 0, 0), -1);
        p.refused("ages -1", p.x.terms(0, 0, -1, 0, 0), -1);
        p.refused("ages 101", p.x.terms(0, 0, 101, 0, 0), -1);
        p.refused("kin -1", p.x.terms(0, 0, 0, -1, 0), -1);
        p.refused("kin 101", p.x.terms(0, 0, 0, 101, 0), -1);
        p.refused("slack -1", p.x.terms(0, 0, 0, 0, -1), -1);
        p.refused("slack 21", p.x.terms(0, 0, 0, 0, 21), -1);
        p.line(0, 0, -1, "ann lee.");
        p.line(2, 60 * Y, 41, "ann lee.");
        p.due("as the last that were not refused", p.x.worth(0, 3), 100);
        p.due("within SLACK 20", p.x.reason(0, 3), 0);
        p.x.terms(7, 30, 4, 0, 18);
        p.due("19 off", p.x.reason(0, 3), 7);
        p.x.terms(7, 30, 4, 0, 19);
        p.due("new terms", p.x.worth(0, 3), 41);
    }

    private static void reasons() {
        p.fresh();
        p.line(0, 20 * Y, -1, "ann lee, bob lee, eve lee.");
        p.line(0, 60 * Y, -1, "ann lee, bob lee, eve lee.");
        p.line(1, 40 * Y, -1, "bob lee, ann lee.");
        p.line(1, 42 * Y, -1, "zoe zed, ann fox.");
        p.line(2, 50 * Y, 30, "ann lee.");
        p.line(2, 50 * Y, 30, "ann lee.");
        p.due("one with itself", p.x.reason(2, 2), 1);
        p.due("one LINE", p.x.reason(0, 2), 1);
        p.due("of one LINE ahead of APART", p.x.apart(0, 2) * 10 + p.x.reason(0, 2), 1);
        p.due("given NAMES", p.x.reason(6, 9), 3);
        p.due("families', of a bride", p.x.reason(7, 10), 0);
        p.due("families', of a bride and the dead", p.x.reason(10, 12), 0);
        p.due("both children", p.x.reason(0, 3), 5);
        p.due("both dead", p.x.reason(12, 15), 5);
        p.x.apart(3, 0);
        p.due("APART comes ahead of it", p.x.reason(0, 3), 2);
        p.due("APART either way", p.x.reason(3, 0), 2);
        p.line(1, 44 * Y, -1, "ann ?, bob lee.");
        p.due("a groom and a bride", p.x.reason(18, 7), 5);
        p.due("a bride and a groom", p.x.reason(7, 18), 5);
        p.due("a father and a bride", p.x.reason(1, 19), 5);
        p.due("a groom and a mother", p.x.reason(18, 19), 1);
        p.line(0, 45 * Y, -1, "? ?, ann ?, bob ?.");
        p.due("a groom and a mother", p.x.reason(6, 23), 5);
        p.due("a father and a mother", p.x.reason(1, 23), 5);
        p.due("a father and a groom", p.x.reason(1, 6), 0);
        p.due("a mother and a bride", p.x.reason(23, 19), 0);
        p.line(3, 47 * Y, 5, "bob fox.");
        p.due("families'", p.x.reason(24, 6), 4);
        p.due("families' of a mother", p.x.reason(24, 23), 0);
        p.due("no MENTION", p.x.reason(0, 27), -1);
        p.due("no MENTION", p.x.reason(-1, 0), -1);
        p.due("no ROLE", p.x.reason(13, 0), -1);
        p.due("no ROLE", p.x.reason(0, 8), -1);
    }

    /** REASON 6 and 7, each at its edge; the child or the dead is the first MENTION. */
    private static void agesOfLife() {
        int b = 30 * Y + 100;
        child("ahead of the birth", b, 3, 0, b - 1, 6);
        child("on the birth's DAY", b, 3, 0, b, 0);
        child("a groom of 14 less a DAY", b, 1, 0, b + 14 * Y - 1, 6);
        child("a groom of 14", b, 1, 0, b + 14 * Y, 0);
        child("a bride of 14 less a DAY", b, 1, 1, b + 14 * Y - 1, 6);
        child("a bride of 14", b, 1, 1, b + 14 * Y, 0);
        child("a father of 14 less a DAY", b, 0, 1, b + 14 * Y - 1, 6);
        child("a father of 14", b, 0, 1, b + 14 * Y, 0);
        child("a father of 51", b, 0, 1, b + 51 * Y, 0);
        child("a mother of 14 less a DAY", b, 0, 2, b + 14 * Y - 1, 6);
        child("a mother of 50", b, 0, 2, b + 50 * Y, 0);
        child("a mother of 50 and a DAY", b, 0, 2, b + 50 * Y + 1, 6);
        child("a bride of 51", b, 1, 1, b + 51 * Y, 0);
        child("the dead ahead of the birth", b, 2, 0, b - 1, 6);
        child("the dead on that DAY", b, 2, 0, b, 0);
        dead("on that DAY", b, 4, 0, b, 0);
        dead("behind it", b, 4, 0, b + 1, 6);
        dead("a mother behind it", b, 0, 2, b + 1, 6);
        dead("a groom behind it", b, 1, 0, b + 1, 6);
        dead("a father within a YEAR", b, 0, 1, b + 366, 0);
        dead("a father behind a YEAR", b, 0, 1, b + 367, 6);
        p.fresh();
        p.line(0, 20 * Y + 365, -1, "ann lee.");
        int[][] ages = {{37, 7}, {38, 0}, {40, 0}, {42, 0}, {43, 7}, {-1, 0}};
        for (int[] one : ages) {
            int line = p.line(2, 60 * Y, one[0], "ann lee.");
            p.due("AGE " + one[0] + " of 40 YEARS", p.x.reason(0, line * 3), one[1]);
            p.due("AGE " + one[0] + " of 40 YEARS", p.x.reason(line * 3, 0), one[1]);
        }
    }

    private static void child(String what, int day, int book, int role, int other, int want) {
        p.fresh();
        p.line(0, day, -1, "?.");
        p.line(book, other, book == 3 ? 0 : -1, "?.");
        p.due(what, p.x.reason(0, 3 + role), want);
        p.due(what + ", the other way", p.x.reason(3 + role, 0), want);
    }

    private static void dead(String what, int day, int book, int role, int other, int want) {
        p.fresh();
        p.line(2, day, -1, "?.");
        p.line(book, other, book == 4 ? 0 : -1, "?.");
        p.due(what, p.x.reason(0, 3 + role), want);
        p.due(what + ", the other way", p.x.reason(3 + role, 0), want);
    }

    private static void likeness() {
        alike("ann", "ann", true);
        alike("ann", "anna", false);
        alike("ann-", "anna", true);
        alike("ann-", "ann", true);
        alike("anna-", "ann", false);
        alike("ann-", "anna-", true);
        alike("anna-", "ann-", true);
        alike("anna-", "anb-", false);
        alike("x-", "ann", false);
        alike("?", "ann", true);
    }

    private static void alike(String a, String b, boolean want) {
        p.fresh();
        p.line(3, 0, 0, a + " " + a + ".");
        p.line(3, 0, 0, b + " " + a + ".");
        p.line(3, 0, 0, a + " " + b + ".");
        p.due(a + " and " + b + " given", p.x.reason(0, 3), want ? 0 : 3);
        p.due(b + " and " + a + " given", p.x.reason(3, 0), want ? 0 : 3);
        p.due(a + " and " + b + " families'", p.x.reason(0, 6), want ? 0 : 4);
        p.due(b + " and " + a + " families'", p.x.reason(6, 0), want ? 0 : 4);
    }

    private static void worth() {
        p.fresh();
        p.x.terms(1, 2, 4, 8, 2);
        p.line(0, 20 * Y, -1, "ann lee.");
        p.line(3, 30 * Y, 0, "ann lee.");
        p.line(3, 30 * Y, 0, "? lee.");
        p.line(3, 30 * Y, 0, "ann ?.");
        p.line(3, 30 * Y, 0, "?.");
        p.line(2, 60 * Y, 40, "ann lee.");
        p.line(2, 60 * Y, -1, "ann lee.");
        p.line(1, 40 * Y, -1, "?, ann fox.");
        p.line(3, 30 * Y, 0, "bob lee.");
        p.due("both", p.x.worth(0, 3), 3);
        p.due("family", p.x.worth(0, 6), 2);
        p.due("given", p.x.worth(0, 9), 1);
        p.due("nothing", p.x.worth(0, 12), 0);
        p.due("ages", p.x.worth(0, 15), 7);
        p.due("ages, the other way", p.x.worth(15, 0), 7);
        p.due("without an AGE", p.x.worth(0, 18), 3);
        p.due("the bride's family's differs", p.x.worth(0, 22), 1);
        p.due("they can't", p.x.worth(0, 24), -1);
        p.due("itself", p.x.worth(0, 0), -1);
        p.due("no MENTION", p.x.worth(0, 27), -1);
        p.due("no MENTION", p.x.worth(-3, 0), -1);
    }

    private static void worthOfKin() {
        kinWorth("father and father", "ann lee, bob lee.", "eve lee, bob lee.", 1, 8);
        kinWorth("with a TORN NAME", "ann lee, bob l-.", "eve lee, bob lee.", 1, 8);
        kinWorth("a NAME unknown", "ann lee, bob ?.", "eve lee, bob lee.", 1, 0);
        kinWorth("a given NAME unknown", "ann lee, ? lee.", "eve lee, bob lee.", 1, 0);
        kinWorth("none told", "ann lee.", "eve lee, bob lee.", 1, 0);
        kinWorth("they can't", "ann lee, rob lee.", "eve lee, bob lee.", 1, 0);
        kinWorth("mothers of other families", "?,?, bess lee.", "?,?, bess fox.", 2, 0);
        kinWorth("mothers of one family", "?,?, bess lee.", "?,?, bess fo-.", 2, 0);
        kinWorth("mothers of one family", "?,?, bess fox.", "?,?, bess fo-.", 2, 8);
        p.fresh();
        p.line(0, 40 * Y, -1, "?, bob lee, may lee.");
        p.line(1, 39 * Y, -1, "bob lee, may lee.");
        p.line(2, 80 * Y, 40, "?.");
        p.due("10, 10, 20 at first", p.x.worth(1, 3), 40);
        p.due("5 at first", p.x.worth(0, 6), 5);
        p.fresh();
        p.x.terms(1, 2, 4, 8, 2);
        p.line(0, 40 * Y, -1, "?, bob lee, may lee.");
        p.line(1, 39 * Y, -1, "bob lee, may lee.");
        p.due("father and groom by mother and bride", p.x.worth(1, 3), 11);
        p.due("mother and bride by father and groom", p.x.worth(2, 4), 11);
        p.due("groom and father by bride and mother", p.x.worth(3, 1), 11);
        p.due("bride and mother by groom and father", p.x.worth(4, 2), 11);
        p.x.apart(1, 3);
        p.due("the other way round", p.x.worth(4, 2), 3);
        p.due("not if those are APART", p.x.worth(2, 4), 3);
        p.due("nor they themselves", p.x.worth(1, 3), -1);
    }

    /** Two births; the others of both LINES are compared (a child and a child can't be one). */
    private static void kinWorth(String what, String a, String b, int kinRole, int want) {
        p.fresh();
        p.x.terms(1, 2, 4, 8, 2);
        p.line(0, 40 * Y, -1, a);
        p.line(0, 42 * Y, -1, b);
        int other = 3 - kinRole;
        p.due(what, p.x.worth(other, 3 + other), want);
    }

    /** A NAME that folds away is known all the same. */
    private static void foldedAway() {
        p.fresh();
        p.x.terms(1, 2, 4, 8, 2);
        p.spell(1, "x>,y>");
        p.line(0, 1, 40 * Y, 40 * Y, -1, "? ?, x y, ?.");
        p.line(0, 1, 42 * Y, 42 * Y, -1, "? ?, y x, ?.");
        p.line(3, 0, 43 * Y, 43 * Y, 5, "ann lee.");
        p.due("both fold away", p.x.worth(1, 4), 3);
        p.due("by their fathers", p.x.worth(2, 5), 8);
        p.due("not as one that does not", p.x.reason(1, 6), 3);
        p.due("it is no unknown ROLE", p.x.kin(0, 146399, 0, 0), 1);
        p.due("an unknown one is none", p.x.kin(0, 146399, 1, 0), -1);
        p.due("no letter", p.x.name(1, 0, -1), 0);
        p.due("as told", p.x.piece(1, 0, 0, 1), 24);
    }

    private static void apart() {
        p.fresh();
        for (int n = 0; n < 4; n++) {
            p.line(3, 0, 0, "?.");
        }
        p.refused("no MENTION", p.x.apart(0, 12), -2);
        p.refused("no MENTION", p.x.apart(-1, 0), -2);
        p.refused("-2 ahead of -3", p.x.apart(1, 1), -2);
        p.refused("itself", p.x.apart(3, 3), -3);
        for (int n = 0; n < 60; n++) {
            p.taken("apart " + n, p.x.apart(0, 3), 0);
        }
        p.refused("the 61st", p.x.apart(0, 6), -5);
        p.refused("-3 ahead of -5", p.x.apart(6, 6), -3);
        p.due("not told", p.x.reason(0, 6), 0);
    }

    private static void together() {
        p.fresh();
        p.line(3, 0, 10, 10, 0, "ann lee.");
        p.line(3, 0, 10, 30, 0, "ann lee.");
        p.line(3, 0, 10, 10, 0, "ann lee.");
        p.refused("DAY", p.x.together(0, 99, -1), -1);
        p.refused("DAY", p.x.together(0, 99, 146400), -1);
        p.refused("MENTION", p.x.together(0, 9, 0), -2);
        p.refused("MENTION", p.x.together(1, 0, 0), -2);
        p.refused("one with itself", p.x.together(0, 0, 0), -4);
        p.taken("together", p.x.together(6, 3, 20), 1);
        p.refused("twice", p.x.together(3, 6, 0), -4);
        p.due("count(6)", p.x.count(6), 1);
        p.due("known, but a LINE is not", p.x.soul(6, 29), 6);
        p.due("the LINE not known", p.x.soul(3, 29), -1);
        p.due("both known", p.x.soul(6, 30), 3);
        p.taken("together", p.x.together(0, 6, 40), 2);
        p.due("ahead", p.x.soul(6, 39), 3);
        p.due("by its lowest", p.x.soul(6, 40), 0);
        p.due("all", p.x.soul(3, 40), 0);
        p.refused("one SOUL by others", p.x.together(0, 3, 0), -4);
        p.due("no DAY", p.x.soul(0, -1), -1);
        p.due("no DAY", p.x.soul(0, 146400), -1);
        p.due("no MENTION", p.x.soul(1, 50), -1);
        p.due("no MENTION", p.x.soul(-1, 50), -1);
        p.due("not known yet", p.x.soul(0, 9), -1);
        p.fresh();
        p.line(3, 0, 0, "?.");
        p.line(3, 0, 0, "?.");
        p.x.apart(0, 3);
        for (int n = 1; n <= 200; n++) {
            p.due("together " + n, p.x.together(0, 3, 0), n);
        }
        p.refused("the 201st", p.x.together(0, 3, 0), -5);
        p.refused("-4 ahead of -5", p.x.together(0, 0, 0), -4);
    }

    private static void waits() {
        p.fresh();
        p.line(3, 10, 0, "ann ?.");
        p.line(3, 10, 0, "? lee.");
        p.line(3, 10, 0, "ann fox.");
        p.line(3, 10, 0, "eve ?.");
        p.x.together(0, 3, 20);
        p.x.together(0, 6, 30);
        p.x.together(3, 9, 40);
        p.x.together(9, 6, 40);
        p.due("none yet", p.x.waits(29, -1), 0);
        p.due("some of one and some of the other CAN'T", p.x.waits(30, -1), 1);
        p.due("which", p.x.waits(30, 0), 1);
        p.due("more", p.x.waits(40, -1), 3);
        p.due("which", p.x.waits(40, 1), 2);
        p.due("which", p.x.waits(40, 2), 3);
        p.due("none", p.x.waits(40, 3), -1);
        p.due("none", p.x.waits(40, -2), -1);
        p.due("no DAY", p.x.waits(-1, -1), -1);
        p.due("no DAY", p.x.waits(146400, -1), -1);
        p.due("the SOUL is as it was", p.x.soul(6, 40), 6);
        p.spell(0, "fox>lee");
        p.due("waits no more", p.x.waits(30, -1), 0);
        p.due("one SOUL", p.x.soul(6, 40), 0);
        p.due("the others still", p.x.waits(40, -1), 2);
        // The order in which they were told, not that of DAYS.
        p.fresh();
        p.line(3, 0, 0, "ann ?.");
        p.line(3, 0, 0, "?.");
        p.line(3, 0, 0, "eve ?.");
        p.x.together(3, 6, 50);
        p.x.together(0, 3, 20);
        p.due("ahead", p.x.soul(3, 49), 0);
        p.due("told first goes first", p.x.soul(3, 50), 3);
        p.due("the other one waits", p.x.waits(50, 0), 1);
    }

    private static void mentions() {
        p.fresh();
        for (int n = 0; n < 5; n++) {
            p.line(3, n, 0, "ann lee.");
        }
        p.x.together(12, 3, 10);
        p.x.together(6, 0, 10);
        p.x.together(12, 6, 20);
        p.due("how many", p.x.mentions(12, 10, 0, 99), 2);
        p.due("how many", p.x.mentions(12, 20, 0, 0), 4);
        int[] want = {0, 3, 6, 12};
        for (int i = 0; i < 4; i++) {
            p.due("the " + i + "th", p.x.mentions(6, 20, 1, i), want[i]);
        }
        p.due("none", p.x.mentions(6, 20, 1, 4), -1);
        p.due("none", p.x.mentions(6, 20, 1, -1), -1);
        p.due("one alone", p.x.mentions(9, 20, 0, 0), 1);
        p.due("one alone", p.x.mentions(9, 20, 1, 0), 9);
        p.due("not known", p.x.mentions(9, 2, 0, 0), -1);
        p.due("what", p.x.mentions(9, 20, 2, 0), -1);
        p.due("what", p.x.mentions(9, 20, -1, 0), -1);
        p.due("no MENTION", p.x.mentions(15, 20, 0, 0), -1);
        p.due("no DAY", p.x.mentions(9, 146400, 0, 0), -1);
    }

    private static void kin() {
        p.fresh();
        p.line(0, 0, 20 * Y, 20 * Y, -1, "ann lee, bob lee, eve lee.");
        p.line(0, 0, 22 * Y, 22 * Y, -1, "tom lee, bob lee, ?.");
        p.line(0, 0, 24 * Y, 24 * Y, -1, "?, bob lee, eve lee.");
        p.line(1, 0, 18 * Y, 18 * Y, -1, "bob lee, eve fox.");
        p.line(1, 0, 40 * Y, 40 * Y, -1, "bob lee, ?.");
        p.line(1, 0, 41 * Y, 41 * Y, -1, "bob lee, zoe ?.");
        p.x.together(1, 4, 0);
        p.x.together(1, 7, 0);
        p.x.together(1, 9, 0);
        p.x.together(1, 12, 0);
        p.x.together(1, 15, 0);
        p.x.together(2, 8, 0);
        p.x.together(2, 10, 0);
        int k = 42 * Y;
        p.due("father", p.x.kin(0, k, 0, 0), 1);
        p.due("father, i is nothing", p.x.kin(0, k, 0, 7), 1);
        p.due("mother", p.x.kin(0, k, 1, 0), 2);
        p.due("father as one SOUL", p.x.kin(3, k, 0, 0), 1);
        p.due("mother unknown", p.x.kin(3, k, 1, 0), -1);
        p.due("no child's MENTION", p.x.kin(1, k, 0, 0), -1);
        p.due("first child", p.x.kin(4, k, 2, 0), 0);
        p.due("second child", p.x.kin(4, k, 2, 1), 3);
        p.due("a child without NAMES is none", p.x.kin(4, k, 2, 2), -1);
        p.due("the mother's", p.x.kin(2, k, 2, 0), 0);
        p.due("the mother's", p.x.kin(2, k, 2, 1), -1);
        p.due("not known yet", p.x.kin(1, 21 * Y, 2, 1), -1);
        p.due("known", p.x.kin(1, 22 * Y, 2, 1), 3);
        p.due("first spouse, in the order of LINES", p.x.kin(1, k, 3, 0), 2);
        p.due("second, the unknown one is none", p.x.kin(1, k, 3, 1), 16);
        p.due("no third", p.x.kin(1, k, 3, 2), -1);
        p.due("of the bride", p.x.kin(16, k, 3, 0), 1);
        p.due("of one who was never wed", p.x.kin(0, k, 3, 0), -1);
        p.due("i -1", p.x.kin(1, k, 3, -1), -1);
        p.due("i -1", p.x.kin(1, k, 2, -1), -1);
        p.due("what", p.x.kin(1, k, 4, 0), -1);
        p.due("what", p.x.kin(1, k, -1, 0), -1);
        p.due("no MENTION", p.x.kin(18, k, 0, 0), -1);
        p.due("no DAY", p.x.kin(0, -1, 0, 0), -1);
        p.due("not known", p.x.kin(0, 0, 0, 0), -1);
    }

    private static void span(String what, int mention, int known, int b, int c, int e, int f) {
        p.due(what + ": b", p.x.span(mention, known, 0), b);
        p.due(what + ": c", p.x.span(mention, known, 1), c);
        p.due(what + ": e", p.x.span(mention, known, 2), e);
        p.due(what + ": f", p.x.span(mention, known, 3), f);
    }

    private static void spans() {
        int last = 146399;
        int d = 200 * Y + 50;
        p.fresh();
        p.line(0, d, -1, "ann ?, bob ?, eve ?.");
        p.line(1, d, -1, "bob ?, eve ?.");
        p.line(2, d, -1, "ann ?.");
        p.line(2, d, 60, "ann ?.");
        p.line(4, d, 5, "ann ?.");
        span("a child", 0, d, d, d, d, d + 110 * Y);
        span("a father", 1, d, d - Y - 110 * Y, d - 14 * Y, d - Y, d + 96 * Y);
        span("a mother", 2, d, d - 50 * Y, d - 14 * Y, d, d + 96 * Y);
        span("a groom", 3, d, d - 110 * Y, d - 14 * Y, d, d + 96 * Y);
        span("a bride", 4, d, d - 110 * Y, d - 14 * Y, d, d + 96 * Y);
        span("the dead", 6, d, d - 110 * Y, d, d, d);
        span("the dead with an AGE", 9, d, 138 * Y, 142 * Y + 365, d, d);
        span("any", 12, d, d - 110 * Y, d, d, d + 110 * Y);
        p.x.terms(10, 10, 5, 20, 0);
        span("SLACK 0", 9, d, 140 * Y, 140 * Y + 365, d, d);
        p.x.together(12, 9, d);
        span("of two", 9, d, 140 * Y, 140 * Y + 365, d, d);
        p.line(0, 0, 0, 0, -1, "x y, a b, c d.");
        span("the first DAY's father: below 0 is 0", 16, last, 0, 0, 0, 96 * Y);
        span("the first DAY's child", 15, last, 0, 0, 0, 110 * Y);
        p.line(0, 0, last, last, -1, "x y, a b, c d.");
        span("the last DAY's child: above the last is that", 18, last, last, last, last, last);
        p.line(2, 10 * Y, 120, "old one.");
        span("the dead of 120: f is by c as it was", 21, last, 0, 0, 10 * Y, 365);
        p.due("what", p.x.span(0, d, 4), -1);
        p.due("what", p.x.span(0, d, -1), -1);
        p.due("not known", p.x.span(0, d - 1, 0), -1);
        p.due("no MENTION", p.x.span(24, d, 0), -1);
        p.due("no DAY", p.x.span(0, 146400, 0), -1);
    }
}
