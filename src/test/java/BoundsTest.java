/**
 * The last number that is taken at both ends of what each call is given, with what it does then; and of each call that
 * asks the last numbers that are answered, and the first that are not. What is REFUSED is in RefusedTest.
 */
public final class BoundsTest {
    private static final Probe p = new Probe();
    private static final int Y = 366;
    private static final int LAST = 146399;
    private static final int MIN = Integer.MIN_VALUE;
    private static final int MAX = Integer.MAX_VALUE;

    public static void main(String[] args) {
        lines();
        spellings();
        terms();
        mentions();
        pages();
        texts();
        facts();
        appeals();
        values();
        splits();
        holds();
        levies();
        paid();
        entries();
        closings();
        tithes();
        sealsAndMasks();
        images();
        askedOfLines();
        askedOfSouls();
        askedOfWishes();
        askedOfPages();
        askedOfTexts();
        askedOfOrders();
        askedOfHoldings();
        askedOfOffices();
        askedOfRelief();
        askedOfTheChest();
        p.finish("BoundsTest");
    }

    // ---- what is told

    /** BOOKS 0 .. 5, HANDS 0 .. 15, DAYS 0 .. 146,399, and the NUMBERS of each BOOK. */
    private static void lines() {
        p.fresh();
        int[][] ends = {{0, -1, -1}, {1, -1, -1}, {2, -1, 120}, {3, 0, 100000}, {4, 0, 100000}, {5, 1, 11}};
        for (int[] one : ends) {
            int low = p.line(one[0], 0, 0, 0, one[1], "ann lee.");
            int high = p.line(one[0], 15, LAST, LAST, one[2], "ann lee.");
            int[] lowest = {one[0], 0, 0, one[1]};
            int[] highest = {one[0], 15, LAST, one[2]};
            for (int what = 0; what < 4; what++) {
                p.due("the lowest of BOOK " + one[0] + ", of " + what, p.x.of(low, what), lowest[what]);
                p.due("the highest of BOOK " + one[0] + ", of " + what, p.x.of(high, what), highest[what]);
            }
            p.due("known on DAY 0", p.x.soul(low * 3, 0), low * 3);
            p.due("known on the last DAY", p.x.soul(high * 3, LAST), high * 3);
            p.due("not a DAY ahead of that", p.x.soul(high * 3, LAST - 1), -1);
        }
        p.taken("AGE 0", p.line(2, 0, 0, "ann lee."), 12);
        p.due("AGE 0 is one", p.x.of(12, 3), 0);
    }

    private static void spellings() {
        for (int hand = 0; hand < 16; hand += 15) {
            p.fresh();
            p.line(2, hand, 0, 0, -1, "ann lee.");
            p.line(2, 7, 0, 0, -1, "ann lee.");
            p.taken("spell(" + hand + ")", p.spell(hand, "a>o"), 1);
            p.due("HAND " + hand, p.x.name(0, 0, 0), 'o');
            p.due("HAND 7 beside " + hand, p.x.name(3, 0, 0), 'a');
        }
    }

    /** "GIVEN, FAMILY, AGES, KIN 0 .. 100: 10, 10, 5, 20 at first; SLACK 0 .. 20: 2 at first." */
    private static void terms() {
        p.fresh();
        p.line(1, 18 * Y, -1, "bob lee, eve lee.");
        p.line(0, 20 * Y, -1, "ann lee, bob lee, eve lee.");
        p.line(2, 60 * Y, 40, "ann lee.");
        p.due("at first: GIVEN, FAMILY, KIN", p.x.worth(0, 4), 40);
        p.due("at first: GIVEN, FAMILY, AGES", p.x.worth(3, 6), 25);
        int[][] terms = {{100, 0, 0, 0}, {0, 100, 0, 0}, {0, 0, 100, 0}, {0, 0, 0, 100}, {100, 100, 100, 100}, {0, 0, 0, 0}};
        for (int[] t : terms) {
            p.taken("terms", p.x.terms(t[0], t[1], t[2], t[3], 0), 0);
            p.due("GIVEN, FAMILY, KIN", p.x.worth(0, 4), t[0] + t[1] + t[3]);
            p.due("GIVEN, FAMILY, AGES", p.x.worth(3, 6), t[0] + t[1] + t[2]);
        }
        for (int slack = 0; slack <= 20; slack += 10) {
            p.fresh();
            p.line(0, 20 * Y, -1, "?.");
            p.line(2, 60 * Y, 40 + slack, "?.");
            p.line(2, 60 * Y, 41 + slack, "?.");
            p.line(2, 60 * Y, 40 - slack, "?.");
            p.line(2, 60 * Y, 39 - slack, "?.");
            p.taken("SLACK " + slack, p.x.terms(0, 0, 0, 0, slack), 0);
            p.due("SLACK " + slack + ": more by that", p.x.reason(0, 3), 0);
            p.due("SLACK " + slack + ": more by one more", p.x.reason(0, 6), 7);
            p.due("SLACK " + slack + ": fewer by that", p.x.reason(0, 9), 0);
            p.due("SLACK " + slack + ": fewer by one more", p.x.reason(0, 12), 7);
        }
    }

    /** The first and the last MENTION that there is, for all that takes one. */
    private static void mentions() {
        p.fresh();
        p.line(0, 20 * Y, -1, "ann lee, bob lee, eve lee.");
        p.line(0, 50 * Y, -1, "ann lee, bob lee, eve lee.");
        p.due("reason(0, 5)", p.x.reason(0, 5), 3);
        p.taken("apart(0, 5)", p.x.apart(0, 5), 0);
        p.due("reason(5, 0)", p.x.reason(5, 0), 2);
        p.taken("together(5, 0, 0)", p.x.together(5, 0, 0), 1);
        p.taken("together(2, 5, LAST)", p.x.together(2, 5, LAST), 2);
        p.due("soul(5, LAST)", p.x.soul(5, LAST), 2);
        p.due("soul(5, LAST - 1)", p.x.soul(5, LAST - 1), 5);
        p.taken("wish(0)", p.x.wish(0), 1);
        p.taken("wish(5)", p.x.wish(5), 2);
        p.taken("join(0)", p.x.join(0), 0);
        p.taken("join(LAST)", p.x.join(LAST), 0);
    }

    private static void pages() {
        for (int book = 0; book < 6; book += 5) {
            p.fresh();
            p.line(book, 0, 5, 0, book == 0 ? -1 : 1, "?.");
            p.due("GUESSED of ten DAYS by five ahead, as known", p.x.fill(book, 10, LAST, 0, 2), 14639);
            p.taken("torn of one DAY, from DAY 0", p.x.torn(book, 0, 0, 0), 1);
            p.due("nine DAYS ahead", p.x.fill(book, 10, LAST, 0, 2), (2 * (LAST - 9) + 9) / 18);
            p.taken("torn of the last DAY", p.x.torn(book, LAST, LAST, LAST), 2);
            p.due("ten DAYS behind, as known", p.x.fill(book, 6, LAST - 10, LAST - 1, 2), (2 * (LAST - 15) + 15) / 30);
            p.due("one of them TORN", p.x.fill(book, 6, LAST - 10, LAST, 2), (2 * (LAST - 15) + 14) / 28);
            p.taken("torn of all DAYS", p.x.torn(book, 0, LAST, LAST), 3);
            p.due("none that isn't TORN", p.x.fill(book, 10, LAST - 10, LAST, 2), 0);
            p.due("not known so", p.x.fill(book, 10, LAST - 10, LAST - 1, 2) > 0 ? 1 : 0, 1);
        }
    }

    private static void texts() {
        p.fresh();
        p.taken("a LAW of DAY 0", p.text(0, 0, 0, "badge"), 0);
        p.taken("a WORD of the last DAY", p.text(1, LAST, LAST, "badge"), 1);
        p.due("DAY 0", p.x.force(0, 0, 0, 0), 1);
        p.due("the last DAY", p.x.force(0, 0, LAST, LAST), 1);
        p.due("the last DAY", p.x.force(1, 0, LAST, LAST), 1);
        p.due("a DAY ahead", p.x.force(1, 0, LAST - 1, LAST), 0);
        p.due("as known a DAY ahead", p.x.force(1, 0, LAST, LAST - 1), 0);
        p.goodText("strike 29 clause 11;strike 0 clause 0;turn warden 399;turn warden 0;seat 100000;seat 0");
    }

    /** GROUNDS 0 .. 4, PARISHES 0 .. 11, DAYS, from as to. */
    private static void facts() {
        p.fresh();
        p.line(5, 0, LAST, 0, 11, "ann lee.");
        p.law("belong birth");
        p.taken("GROUND 0, PARISH 11", p.x.fact(0, 0, 11, LAST, LAST, LAST), 1);
        p.due("on the last DAY", p.x.belong(0, LAST, LAST, 0), 11);
        p.due("a DAY ahead", p.x.belong(0, LAST - 1, LAST, 0), -1);
        p.due("as known a DAY ahead", p.x.belong(0, LAST, LAST - 1, 0), -1);
        p.taken("PARISH 0", p.x.fact(0, 0, 0, 0, 0, 0), 2);
        p.due("on DAY 0", p.x.belong(0, 0, 0, 0), 0);
        p.taken("GROUND 4", p.x.fact(0, 4, 11, 0, LAST, 0), 3);
        p.due("certified on DAY 0", p.x.about(0, 0, 0, 9), 1);
        p.due("certified on the last DAY", p.x.about(0, LAST, 0, 9), 1);
        for (int ground = 1; ground < 4; ground++) {
            p.taken("GROUND " + ground, p.x.fact(0, ground, 5, 7, 7, 0), ground + 3);
        }
    }

    /** "a DAY not ahead of it" */
    private static void appeals() {
        p.fresh();
        p.line(5, 0, 0, 0, 1, "ann lee.");
        p.line(5, 0, LAST, 0, 11, "ann lee.");
        p.line(4, 0, 0, 0, 5, "ann lee.");
        p.x.together(0, 6, 0);
        p.taken("on the ORDER's DAY, the first", p.x.appeal(0, 0, 0), 1);
        p.taken("on the ORDER's DAY, the last", p.x.appeal(1, LAST, LAST), 2);
        p.due("UNDONE", p.x.order(0, 0, 1), 1);
        p.due("BACK of one DAY", p.x.order(0, 0, 2), 5);
        p.due("UNDONE as known on the last DAY", p.x.order(1, LAST, 1), 1);
        p.due("not a DAY ahead", p.x.order(1, LAST - 1, 1), 0);
    }

    private static void values() {
        p.fresh();
        p.x.holding();
        p.taken("VALUE 10,000", p.x.value(0, 10000, 0, 0), 1);
        p.due("on DAY 0", p.x.house(0, 0, 0, 0), 10000);
        p.taken("VALUE 0", p.x.value(0, 0, LAST, LAST), 2);
        p.due("a DAY ahead", p.x.house(0, LAST - 1, LAST, 0), 10000);
        p.due("on the last DAY", p.x.house(0, LAST, LAST, 0), 0);
        p.due("as known a DAY ahead", p.x.house(0, LAST, LAST - 1, 0), 10000);
    }

    /** "(1 .. 100 each, a below b)" */
    private static void splits() {
        p.fresh();
        p.x.holding();
        p.x.value(0, 10000, 0, 0);
        p.taken("1 / 2", p.x.split(0, 1, 2, 0, 0), 1);
        p.taken("1 / 100", p.x.split(0, 1, 100, 0, 0), 2);
        p.taken("99 / 100", p.x.split(0, 99, 100, LAST, LAST), 3);
        p.due("1 / 2 of 10,000", p.x.house(1, 0, 0, 0), 5000);
        p.due("1 / 100 of 5,000", p.x.house(2, 0, 0, 0), 50);
        p.due("none a DAY ahead", p.x.house(3, LAST - 1, LAST, 0), 0);
        p.due("none as known a DAY ahead", p.x.house(3, LAST, LAST - 1, 0), 0);
        p.due("99 / 100 of 4,950", p.x.house(3, LAST, LAST, 0), 4900);
        p.due("what is left", p.x.house(0, LAST, LAST, 0), 50);
    }

    private static void holds() {
        p.fresh();
        p.line(3, 0, 0, "ann lee.");
        p.x.holding();
        p.taken("DAY 0", p.x.hold(0, 0, 0, 0), 1);
        p.taken("the last DAY, nobody", p.x.hold(0, -1, LAST, LAST), 2);
        p.due("on DAY 0", p.x.house(0, 0, 0, 1), 0);
        p.due("a DAY ahead", p.x.house(0, LAST - 1, LAST, 1), 0);
        p.due("as known a DAY ahead", p.x.house(0, LAST, LAST - 1, 1), 0);
        p.due("nobody", p.x.house(0, LAST, LAST, 1), -1);
    }

    /** "(0 .. 1,000,000)", WHAT 0 .. 2, YEARS 0 .. 399. */
    private static void levies() {
        p.fresh();
        p.line(3, 0, 0, "ann lee.");
        p.x.holding();
        p.x.value(0, 1, 0, 0);
        p.x.hold(0, 0, 0, 0);
        p.taken("0 pence in YEAR 0", p.x.levy(0, 0, 0, 0), 0);
        p.taken("1,000,000 in YEAR 399", p.x.levy(2, 399, 1000000, LAST), 1);
        p.due("0 pence", p.x.owe(0, 0, 0), 0);
        p.due("1,000,000", p.x.owe(1, 0, LAST), 1000000);
        p.due("not known a DAY ahead", p.x.owe(1, 0, LAST - 1), -1);
        p.law("exempt church");
        p.text(0, 399 * Y, 0, "exempt poor");
        p.due("exempt from the first DAY of YEAR 399 on", p.x.owe(1, 0, LAST), 0);
    }

    private static void paid() {
        p.fresh();
        p.x.holding();
        p.x.levy(0, 0, 0, 0);
        p.taken("1 penny", p.x.pay(0, 0, 1, 0, 0), 1);
        p.due("1 penny", p.x.arrear(0, 0, 0, 0), -1);
        p.taken("1,000,000", p.x.pay(0, 0, 1000000, LAST, LAST), 2);
        p.due("a DAY ahead", p.x.arrear(0, 0, LAST - 1, LAST), -1);
        p.due("as known a DAY ahead", p.x.arrear(0, 0, LAST, LAST - 1), -1);
        p.due("1,000,001", p.x.arrear(0, 0, LAST, LAST), -1000001);
    }

    /** "pence (-1,000,000 .. 1,000,000)", OFFICES 0 .. 3. */
    private static void entries() {
        p.fresh();
        p.taken("the least", p.x.entry(0, 0, -1000000, 0), 1);
        p.taken("the most", p.x.entry(3, 399, 1000000, LAST), 2);
        p.due("the least", p.x.balance(0, 0, 0), -1000000);
        p.due("the most", p.x.balance(3, 399, LAST), 1000000);
        p.due("not known a DAY ahead", p.x.balance(3, 399, LAST - 1), 0);
    }

    private static void closings() {
        p.fresh();
        p.taken("YEAR 0 on DAY 0", p.x.close(0, 0, 0, 0), 0);
        p.taken("YEAR 399 on the last DAY", p.x.close(3, 399, 0, LAST), 0);
        p.refused("there is no YEAR behind it", p.x.close(3, 400, 0, LAST), -1);
        p.x.entry(1, 398, 1000000, 0);
        p.taken("YEAR 398", p.x.close(1, 398, 1000000, LAST), 0);
        p.due("as known on the last DAY", p.x.balance(1, 399, LAST), 1000000);
        p.due("as known a DAY ahead", p.x.balance(1, 399, LAST - 1), 0);
        p.taken("and YEAR 399", p.x.close(1, 399, 1000000, LAST), 0);
    }

    /** "ACRES of a CROP 0 .. 2 (0 .. 1000)", PRICES 0 .. 10,000. */
    private static void tithes() {
        p.fresh();
        for (int h = 0; h < 40; h++) {
            p.x.holding();
        }
        p.taken("1000 ACRES of CROP 2 of HOLDING 39", p.x.acres(39, 2, 1000), 0);
        p.taken("1 of CROP 0 of HOLDING 0", p.x.acres(0, 0, 1), 0);
        p.taken("2 of CROP 0 of HOLDING 1", p.x.acres(1, 0, 2), 0);
        p.taken("3 of CROP 2 of HOLDING 0", p.x.acres(0, 2, 3), 0);
        p.taken("a PRICE of YEAR 0", p.x.price(0, 0, 10000, 0), 1);
        p.taken("a PRICE of YEAR 398", p.x.price(2, 398, 10000, LAST), 2);
        p.taken("a PRICE of YEAR 399", p.x.price(2, 399, 10000, LAST), 3);
        p.due("HOLDING 0 by CROP 0", p.x.coin(0, 1, 0), 1000);
        p.due("HOLDING 1", p.x.coin(1, 1, 0), 2000);
        p.due("HOLDING 39", p.x.coin(39, 1, 0), 0);
        p.due("HOLDING 39 in YEAR 399", p.x.coin(39, 399, LAST), 1000000);
        p.due("HOLDING 0 in YEAR 399", p.x.coin(0, 399, LAST), 3000);
        p.due("HOLDING 1 in YEAR 399", p.x.coin(1, 399, LAST), 0);
        p.due("not known a DAY ahead", p.x.coin(39, 399, LAST - 1), 0);
        p.taken("0 ACRES", p.x.acres(39, 2, 0), 0);
        p.due("none", p.x.coin(39, 399, LAST), 0);
        p.taken("PRICE 0", p.x.price(0, 1, 0, 0), 4);
        p.due("a PRICE of 0 is one", p.x.coin(0, 2, 0), 500);
    }

    /** "with a mask's bits turned over (1 .. 255)" */
    private static void sealsAndMasks() {
        p.fresh();
        p.line(3, 0, 0, 0, 0, "?.");
        p.line(3, 0, LAST, LAST, 100000, "?.");
        p.taken("YEAR 0", p.x.seal(0), 1);
        p.taken("YEAR 399", p.x.seal(399), 1);
        p.taken("mask 1", p.x.alter(0, 1), 1);
        p.taken("mask 255", p.x.alter(1, 255), 100000 ^ 255);
        p.due("found in YEAR 0", p.x.found(0), 0);
        p.due("found in YEAR 399", p.x.found(399), 1);
        p.taken("back again", p.x.alter(1, 255), 100000);
        p.due("found none", p.x.found(399), -1);
    }

    private static void images() {
        p.fresh();
        p.taken("image(0)", p.x.image(0), 0);
        p.x.holding();
        p.taken("image(3)", p.x.image(3), 0);
        p.taken("back(0)", p.x.back(0), 0);
        p.due("none yet", p.x.count(3), 0);
        p.taken("back(3)", p.x.back(3), 0);
        p.due("one", p.x.count(3), 1);
    }

    // ---- what is asked

    /** Numbers low .. high are answered by another than what stands for none, those beyond by that. */
    private static void ends(ParishChest x, String call, int[] base, int at, int low, int high, long none) {
        int[] outside = {low - 1, high + 1, MIN, MAX};
        int[] inside = {low, high};
        for (int n : inside) {
            int[] a = base.clone();
            a[at] = n;
            p.due(Twin.shown(call, a) + " is answered", Calls.put(x, call, a) != none ? 1 : 0, 1);
        }
        for (int n : outside) {
            int[] a = base.clone();
            a[at] = n;
            p.due(Twin.shown(call, a), Calls.put(x, call, a), none);
        }
    }

    private static int[] row(int... numbers) {
        return numbers;
    }

    private static void askedOfLines() {
        ParishChest x = Scene.built();
        ends(x, "of", row(0, 0), 0, 0, 6, -2);
        ends(x, "of", row(0, 0), 1, 0, 5, -2);
        ends(x, "name", row(0, 0, -1), 0, 0, 20, -1);
        ends(x, "name", row(0, 0, -1), 1, 0, 1, -1);
        ends(x, "name", row(0, 0, -1), 2, -1, 2, -1);
        ends(x, "piece", row(0, 0, 0, 1), 0, 0, 19 - 1, -2);
        ends(x, "piece", row(0, 0, 0, 1), 1, 0, 1, -2);
        ends(x, "piece", row(0, 0, 0, 1), 2, 0, 2, -3);
        ends(x, "piece", row(0, 0, 0, 0), 2, 0, 3, -3);
        ends(x, "piece", row(0, 0, 0, 0), 3, 0, 6, -1);
        p.due("three letters", x.piece(0, 0, 0, 3), (1 * 27 + 14) * 27 + 14);
        p.due("four of three", x.piece(0, 0, 0, 4), -3);
        p.due("six of three", x.piece(0, 0, 0, 6), -3);
        p.due("none of three, at the end", x.piece(0, 0, 3, 0), 0);
        p.due("one of three, at the end", x.piece(0, 0, 3, 1), -3);
        p.due("far beyond, so that a sum would go round", x.piece(0, 0, MAX, 6), -3);
        p.due("a ROLE that is unknown", x.piece(19, 0, 0, 0), -2);
        p.due("its length", x.name(19, 0, -1), 0);
        p.due("n ahead of all", x.piece(99, 9, 9, 7), -1);
        p.due("a NAME's absence ahead of its length", x.piece(99, 0, 9, 6), -2);
        p.fresh();
        p.line(2, 0, -1, "zzzzzzzzzzzz abcdefghijkl.");
        p.due("six of the greatest", p.x.piece(0, 0, 6, 6), 387420488);
        p.due("the last letters", p.x.piece(0, 1, 11, 1), 12);
        p.due("one more", p.x.piece(0, 1, 11, 2), -3);
        p.due("seven", p.x.piece(0, 0, 0, 7), -1);
        p.due("the last byte", p.x.name(0, 1, 11), 'l');
        p.due("the one behind it", p.x.name(0, 1, 12), -1);
    }

    private static void askedOfSouls() {
        ParishChest x = Scene.built();
        ends(x, "reason", row(9, 9), 0, 0, 20, -1);
        ends(x, "reason", row(9, 9), 1, 0, 20, -1);
        ends(x, "worth", row(6, 0), 1, 0, 0, -1);
        p.due("worth with one that CAN'T", x.worth(9, 18), -1);
        ends(x, "waits", row(100, -1), 0, 0, LAST, -1);
        ends(x, "waits", row(115, -1), 1, -1, 0, -1);
        ends(x, "soul", row(9, 115), 0, 0, 15, -1);
        ends(x, "soul", row(9, 115), 1, 50, LAST, -1);
        ends(x, "mentions", row(0, 115, 0, 0), 1, 100, LAST, -1);
        ends(x, "mentions", row(0, 115, 0, 0), 2, 0, 1, -1);
        ends(x, "mentions", row(0, LAST, 1, 0), 3, 0, 3, -1);
        ends(x, "kin", row(0, 115, 0, 0), 1, 100, LAST, -1);
        ends(x, "kin", row(1, 115, 2, 0), 3, 0, 0, -1);
        ends(x, "kin", row(1, 115, 3, 0), 3, 0, 0, -1);
        ends(x, "span", row(0, 115, 0), 0, 0, 15, -1);
        ends(x, "span", row(0, 115, 0), 1, 100, LAST, -1);
        ends(x, "span", row(0, 115, 0), 2, 0, 3, -1);
        p.due("kin of what -1", x.kin(1, LAST, -1, 0), -1);
        p.due("kin of what 4", x.kin(1, LAST, 4, 0), -1);
        for (int i : new int[] {MIN, -1, 0, 1, MAX}) {
            p.due("i is nothing to a father", x.kin(0, LAST, 0, i), 1);
            p.due("i is nothing to a mother", x.kin(0, LAST, 1, i), 2);
            p.due("i is nothing to how many", x.mentions(0, LAST, 0, i), 4);
        }
    }

    /** "NONE for what, n that can't be." */
    private static void askedOfWishes() {
        ParishChest x = Scene.built();
        ends(x, "best", row(0, 0), 0, 0, 3, -1);
        ends(x, "best", row(3, 0), 1, 0, 1000, -1);
        ends(x, "group", row(0), 0, 0, 1, -1);
    }

    private static void askedOfPages() {
        ParishChest x = Scene.built();
        for (int what = 0; what < 3; what++) {
            ends(x, "fill", row(0, 500, 900, 0, what), 0, 0, 5, -1);
            ends(x, "fill", row(0, 500, 900, 0, what), 1, 0, 900, -1);
            ends(x, "fill", row(0, 500, 900, 0, what), 2, 500, LAST, -1);
            ends(x, "fill", row(0, 500, 900, 0, what), 3, 0, LAST, -1);
        }
        ends(x, "fill", row(0, 500, 900, 0, 0), 4, 0, 2, -1);
    }

    private static void askedOfTexts() {
        ParishChest x = Scene.built();
        ends(x, "force", row(0, 0, 0, 0), 0, 0, 2, -1);
        ends(x, "force", row(0, 0, 0, 0), 1, 0, 5, -1);
        ends(x, "force", row(2, 0, 0, 0), 1, 0, 1, -1);
        ends(x, "force", row(0, 0, 0, 0), 2, 0, LAST, -1);
        ends(x, "force", row(0, 0, 0, 0), 3, 0, LAST, -1);
        ends(x, "holds", row(0, 0, 0, 0, LAST), 0, 0, 2, -1);
        ends(x, "holds", row(0, 0, 0, 0, LAST), 1, 0, 5, -1);
        ends(x, "holds", row(0, 0, 0, 0, LAST), 2, 0, 20, -1);
        ends(x, "holds", row(0, 0, 0, 0, LAST), 3, 0, LAST, -1);
        ends(x, "holds", row(0, 0, 0, 0, LAST), 4, 100, LAST, -1);
        ends(x, "about", row(0, 0, LAST, 0), 0, 0, 20, -1);
        ends(x, "about", row(0, 0, LAST, 0), 1, 0, LAST, -1);
        ends(x, "about", row(0, 0, LAST, 0), 2, 100, LAST, -1);
        ends(x, "about", row(0, 0, LAST, 0), 3, 0, 9, -1);
        p.fresh();
        p.line(3, 0, 7, 100, 5, "ann lee.");
        p.law("rate church 1;rate way 1;rate poor 1;relief 1;fee bell 1;fee grave 1;fee wedding 1;seat 1");
        ends(p.x, "counts", row(0, 0, 0, LAST, 0), 0, 0, 7, Probe.NO_SUM);
        ends(p.x, "counts", row(0, 0, 0, LAST, 0), 1, 0, 0, Probe.NO_SUM);
        ends(p.x, "counts", row(0, 0, 0, LAST, 0), 2, 0, LAST, Probe.NO_SUM);
        ends(p.x, "counts", row(0, 0, 0, LAST, 0), 3, 100, LAST, Probe.NO_SUM);
        ends(p.x, "counts", row(0, 0, 0, LAST, 0), 4, 0, 2, Probe.NO_SUM);
    }

    private static void askedOfOrders() {
        ParishChest x = Scene.built();
        ends(x, "belong", row(0, 20 * Y, LAST, 0), 1, 5 * Y + 40, LAST, -1);
        ends(x, "belong", row(0, 20 * Y, LAST, 0), 2, 100, LAST, -1);
        ends(x, "belong", row(0, 20 * Y, LAST, 0), 3, 0, 2, -1);
        ends(x, "belong", row(18, 40 * Y, LAST, 0), 0, 18, 18, -1);
        ends(x, "order", row(5, LAST, 0), 0, 5, 5, -1);
        ends(x, "order", row(5, LAST, 0), 1, 50, LAST, -1);
        ends(x, "order", row(5, LAST, 0), 2, 0, 2, -1);
    }

    private static void askedOfHoldings() {
        ParishChest x = Scene.built();
        ends(x, "house", row(0, 0, 0, 0), 0, 0, 3, -1);
        ends(x, "house", row(0, 0, 0, 0), 1, 0, LAST, -1);
        ends(x, "house", row(0, 0, 0, 0), 2, 0, LAST, -1);
        ends(x, "house", row(0, 0, 115, 0), 3, 0, 1, -1);
        ends(x, "owe", row(0, 0, LAST), 0, 0, 1, -1);
        ends(x, "owe", row(0, 0, LAST), 1, -1, 3, -1);
        ends(x, "owe", row(1, 0, LAST), 2, 140, LAST, -1);
        ends(x, "arrear", row(0, 0, 0, LAST), 0, 0, 1, Probe.NOTHING);
        ends(x, "arrear", row(0, 0, 0, LAST), 1, 0, 3, Probe.NOTHING);
        ends(x, "arrear", row(0, 0, 0, LAST), 2, 0, LAST, Probe.NOTHING);
        ends(x, "arrear", row(1, 0, 0, LAST), 3, 140, LAST, Probe.NOTHING);
        ends(x, "seat", row(0, LAST, 0), 0, 0, LAST, -1);
        ends(x, "seat", row(0, LAST, 0), 1, 110, LAST, -1);
        ends(x, "seat", row(0, LAST, 0), 2, -1, 3, -1);
        ends(x, "coin", row(0, 0, 0), 0, 0, 3, -1);
        ends(x, "coin", row(0, 0, 0), 1, 0, 399, -1);
        ends(x, "coin", row(0, 0, 0), 2, 0, LAST, -1);
    }

    private static void askedOfOffices() {
        ParishChest x = Scene.built();
        ends(x, "turn", row(3, 0, LAST, 1), 0, 0, 3, -1);
        ends(x, "turn", row(3, 0, LAST, 1), 1, 0, 399, -1);
        ends(x, "turn", row(3, 0, LAST, 1), 2, 0, LAST, -1);
        ends(x, "turn", row(3, 0, LAST, 1), 3, 0, 2, -1);
        ends(x, "balance", row(0, 0, 0), 0, 0, 3, Probe.NOTHING);
        ends(x, "balance", row(0, 0, 0), 1, 0, 399, Probe.NOTHING);
        ends(x, "balance", row(0, 0, 0), 2, 0, LAST, Probe.NOTHING);
    }

    private static void askedOfRelief() {
        ParishChest x = Scene.built();
        ends(x, "beyond", row(4, LAST), 0, 4, 4, -1);
        ends(x, "beyond", row(4, LAST), 1, 50, LAST, -1);
        ends(x, "badge", row(0, 0, LAST), 0, 0, 20, -1);
        ends(x, "badge", row(0, 0, LAST), 1, 0, LAST, -1);
        ends(x, "badge", row(0, 0, LAST), 2, 100, LAST, -1);
        ends(x, "fee", row(0, LAST), 0, 0, 6, -1);
        ends(x, "fee", row(0, LAST), 1, 100, LAST, -1);
    }

    private static void askedOfTheChest() {
        ParishChest x = Scene.built();
        ends(x, "found", row(31), 0, 31, 31, -3);
        ends(x, "as", row(0, 6), 0, 0, 18, -2);
        ends(x, "as", row(0, 6), 1, 0, 9, -1);
        ends(x, "count", row(0), 0, 0, 11, -1);
        for (int n : new int[] {MIN, -1, 3, 401, MAX}) {
            p.due("end(" + n + ") of two bytes", x.end(n), -1);
        }
        p.due("end(2) of two bytes", x.end(2), 2);
        p.due("end(1) of two bytes", x.end(1), 1);
        p.due("end(2) of one byte", x.end(2), -1);
        p.due("end(0) of one byte", x.end(0), 0);
        p.due("end(1) of none", x.end(1), -1);
        p.due("end(0) of none", x.end(0), 0);
    }
}
