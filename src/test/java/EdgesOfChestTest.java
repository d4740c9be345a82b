/** Terms VIII to X, sentence by sentence: relief, BADGES, SEATS, FEES, TITHES, seals, IMAGES, THINGS; and status(). */
public final class EdgesOfChestTest {
    private static final Probe p = new Probe();
    private static final int Y = 366;
    private static final int LAST = 146399;

    public static void main(String[] args) {
        beyond();
        badges();
        seatsByDays();
        seatsBySums();
        fees();
        feesByDays();
        coinOfSevenYears();
        coinOfFractions();
        coinOfPrices();
        sealedSums();
        foundPlaces();
        foundNone();
        foundNoPlace();
        altered();
        imagesOfAll();
        imagesStay();
        imagesOfTexts();
        backToFewerLines();
        backToFewerHoldings();
        backAndTheTape();
        thingsInOrder();
        statusOfEach();
        statusOfNone();
        p.finish("EdgesOfChestTest");
    }

    // ---- Terms VIII

    /** "BEYOND is what its pence are above the SUM .. (0 without, or below 0), at least 0." */
    private static void beyond() {
        int[][] sums = {{0, 30}, {29, 1}, {30, 0}, {31, 0}, {100000, 0}};
        for (int[] one : sums) {
            p.fresh();
            p.line(4, 0, 1000, 0, 30, "ann lee.");
            p.due("without", p.x.beyond(0, LAST), 30);
            p.law("relief " + one[0]);
            p.due("above " + one[0], p.x.beyond(0, LAST), one[1]);
            p.law("relief 0 - " + one[0] + " - 1");
            p.due("a SUM below 0", p.x.beyond(0, LAST), 30);
        }
        p.fresh();
        p.line(4, 0, 1000, 500, 100000, "ann lee.");
        p.text(0, 1000, 0, "relief 1");
        p.text(0, 1001, 0, "relief 2");
        p.due("on its DAY", p.x.beyond(0, LAST), 99999);
        p.due("not known", p.x.beyond(0, 499), -1);
        p.line(4, 0, 1000, 500, 0, "ann lee.");
        p.due("of 0 pence", p.x.beyond(1, LAST), 0);
        p.x.alter(1, 255);
        p.due("ALTERED", p.x.beyond(1, LAST), 254);
        for (int book = 0; book < 6; book++) {
            int line = p.line(book, 0, book < 3 ? -1 : 1, ".");
            p.due("of BOOK " + book, p.x.beyond(line, LAST), book == 4 ? 1 : -1);
        }
    }

    /** "BADGE: a SOUL that is poor and for whom a \"badge\" HOLDS." */
    private static void badges() {
        p.fresh();
        p.line(4, 0, 1000, 0, 1, "ann lee.");
        p.due("poor alone", p.x.badge(0, 1000, LAST), 0);
        p.text(0, 1100, 600, "badge");
        int[][] want = {{999, LAST, 0}, {1099, LAST, 0}, {1100, LAST, 1}, {1100, 599, 0}, {1100, 600, 1}, {1365, LAST, 1}, {1366, LAST, 0}};
        for (int[] one : want) {
            p.due("on " + one[0] + " as known on " + one[1], p.x.badge(0, one[0], one[1]), one[2]);
        }
        p.text(1, 0, 0, "badge if dead");
        p.due("one of two HOLDS", p.x.badge(0, 1100, LAST), 1);
        p.text(1, 0, 0, "strike 0 clause 0");
        p.due("none HOLDS", p.x.badge(0, 1100, LAST), 0);
    }

    private static void seats(String what, int day, int known, int... want) {
        p.due(what + ": how many", p.x.seat(day, known, -1), want.length);
        for (int i = 0; i < want.length; i++) {
            p.due(what + ": SEAT " + i, p.x.seat(day, known, i), want[i]);
        }
        p.due(what + ": none behind", p.x.seat(day, known, want.length), -1);
        p.due(what + ": none ahead", p.x.seat(day, known, -2), -1);
    }

    private static void row(int... values) {
        p.fresh();
        for (int h = 0; h < values.length; h++) {
            p.line(3, 0, 5, "ann lee.");
            p.x.holding();
            p.x.value(h, values[h], 0, 0);
            p.x.hold(h, h * 3, 0, 0);
        }
    }

    /** "SEATS on d as known: HOLDINGS that are held" */
    private static void seatsByDays() {
        p.fresh();
        seats("none at all", 0, 0);
        p.line(3, 0, 5, "ann lee.");
        p.x.holding();
        p.x.holding();
        seats("none is held", LAST, LAST);
        p.x.hold(1, 0, 1000, 500);
        seats("a DAY ahead", 999, LAST);
        seats("held", 1000, LAST, 1);
        seats("as known a DAY ahead", 1000, 499);
        seats("as known", 1000, 500, 1);
        p.x.hold(0, 0, 0, 0);
        seats("both: the lower first", 1000, 500, 0, 1);
        p.x.hold(0, -1, 2000, 0);
        seats("no more", 2000, 500, 1);
    }

    /** "the greatest first, of alike ones the lower HOLDING; those without such a SUM behind all others" */
    private static void seatsBySums() {
        row(20, 30, 10, 30, 20);
        seats("without", 0, 0, 0, 1, 2, 3, 4);
        p.law("seat value");
        seats("the greatest first", 0, 0, 1, 3, 0, 4, 2);
        p.law("seat 0 - value");
        seats("below 0", 0, 0, 2, 0, 4, 1, 3);
        p.law("seat 0 - 100000 * 100000 * 100 if value = 30;seat 1 / 0 if value = 20");
        seats("the least SUM is still one", 0, 0, 2, 0, 4, 1, 3);
        p.law("strike 0 clause 0;strike 1 clause 0");
        seats("those without are behind it", 0, 0, 1, 3, 0, 2, 4);
        p.law("seat 0 if value = 10");
        seats("0 is one", 0, 0, 2, 1, 3, 0, 4);
        p.text(0, 1, 0, "seat 9 if value = 20");
        seats("a DAY ahead", 0, 0, 2, 1, 3, 0, 4);
        seats("on that DAY", 1, 0, 0, 4, 2, 1, 3);
    }

    /** "of a burial those of \"bell\" and \"grave\" .., of a wedding that of \"wedding\" ..; of others 0 (a FEE below 0: 0)" */
    private static void fees() {
        p.fresh();
        int[] numbers = {-1, -1, -1, 0, 0, 1};
        for (int book = 0; book < 6; book++) {
            p.line(book, 0, numbers[book], "ann lee.");
            p.due("without", p.x.fee(book, 0), 0);
        }
        p.law("fee bell 1;fee grave 10;fee wedding 100");
        int[] want = {0, 100, 11, 0, 0, 0};
        for (int book = 0; book < 6; book++) {
            p.due("of BOOK " + book, p.x.fee(book, 0), want[book]);
        }
        p.law("fee bell 0 - 1");
        p.due("bell below 0", p.x.fee(2, 0), 10);
        p.law("fee grave 0 - 1");
        p.due("both below 0", p.x.fee(2, 0), 0);
        p.law("fee wedding 0 - 1");
        p.due("wedding below 0", p.x.fee(1, 0), 0);
        p.law("fee bell 100000 * 100000 * 100;fee grave 100000 * 100000 * 100");
        p.due("the greatest", p.x.fee(2, 0), 2000000000000L);
        p.law("fee bell 100000 * 100000 * 100 + 1;fee grave 1 / 0");
        p.due("BROKEN ones HOLD not", p.x.fee(2, 0), 2000000000000L);
    }

    private static void feesByDays() {
        p.fresh();
        p.line(2, 0, 1000, 500, 40, "ann lee.");
        p.line(1, 0, 1000, 500, -1, "ann lee, eve lee.");
        p.text(0, 1000, 700, "fee bell 5;fee wedding 7");
        p.text(0, 1001, 0, "fee bell 6;fee wedding 8");
        p.due("not known", p.x.fee(0, 499), -1);
        p.due("the TEXT not known", p.x.fee(0, 699), 0);
        p.due("on its DAY", p.x.fee(0, 700), 5);
        p.due("on its DAY", p.x.fee(1, 700), 7);
        p.law("fee bell age;fee wedding children + 3");
        p.due("the dead's SOUL's: c is the end of YEAR -36", p.x.fee(0, 700), 2);
        p.due("the groom's SOUL's", p.x.fee(1, 700), 3);
    }

    /** "the PRICES of the seven YEARS ahead that have one known, together, through ten times how many those are" */
    private static void coinOfSevenYears() {
        p.fresh();
        p.x.holding();
        p.x.acres(0, 0, 10);
        for (int year = 0; year < 9; year++) {
            p.x.price(0, year, 1 << year, 0);
        }
        int[] want = {0, 1, 1, 2, 3, 6, 10, 18, 36, 72};
        for (int year = 0; year < want.length; year++) {
            p.due("COIN in " + year, p.x.coin(0, year, 0), want[year]);
        }
        p.due("six of seven have one", p.x.coin(0, 10, 0), (8 + 16 + 32 + 64 + 128 + 256) / 6);
        p.due("one of seven has one", p.x.coin(0, 15, 0), 256);
        p.due("none has one", p.x.coin(0, 16, 0), 0);
        p.due("the last YEAR", p.x.coin(0, 399, 0), 0);
        p.x.price(0, 392, 70, 0);
        p.due("the last YEAR, seven ahead", p.x.coin(0, 399, 0), 70);
        p.x.price(0, 399, 7, 0);
        p.due("not its own", p.x.coin(0, 399, 0), 70);
        p.x.price(0, 391, 7, 0);
        p.due("not eight ahead", p.x.coin(0, 399, 0), 70);
    }

    /** "all CROPS as one fraction, cut in the end (a CROP without any: 0)" */
    private static void coinOfFractions() {
        int[][] prices = {{5, 5, 0, 1}, {5, 4, 0, 0}, {5, 4, 1, 1}, {9, 0, 0, 0}, {3, 3, 3, 0}, {4, 3, 3, 1}, {10, 10, 10, 3}, {9, 9, 1, 1}, {9, 9, 2, 2}};
        for (int[] one : prices) {
            p.fresh();
            p.x.holding();
            for (int crop = 0; crop < 3; crop++) {
                p.x.acres(0, crop, 1);
                p.x.price(crop, 5, one[crop], 0);
            }
            p.due("tenths " + one[0] + " " + one[1] + " " + one[2], p.x.coin(0, 6, 0), one[3]);
        }
        // 1/10 by one YEAR, 8/20 by two, 15/30 by three: just one; a penny less is none.
        for (int less = 0; less < 2; less++) {
            p.fresh();
            p.x.holding();
            int[] sums = {1, 8, 15 - less};
            for (int crop = 0; crop < 3; crop++) {
                p.x.acres(0, crop, 1);
                for (int year = 0; year <= crop; year++) {
                    p.x.price(crop, year, year == 0 ? sums[crop] : 0, 0);
                }
            }
            p.due("one fraction, less " + less, p.x.coin(0, 3, 0), 1 - less);
        }
        p.fresh();
        p.x.holding();
        for (int crop = 0; crop < 3; crop++) {
            p.x.acres(0, crop, 1000);
            p.x.price(crop, 0, 10000, 0);
        }
        p.due("the most", p.x.coin(0, 1, 0), 3000000);
    }

    /** "known from a DAY on, told last counts" */
    private static void coinOfPrices() {
        p.fresh();
        p.x.holding();
        p.x.acres(0, 0, 10);
        p.x.price(0, 0, 5, 0);
        p.x.price(0, 0, 6, 1000);
        p.x.price(0, 0, 7, 500);
        p.due("the first", p.x.coin(0, 1, 499), 5);
        p.due("the third", p.x.coin(0, 1, 500), 7);
        p.due("the third is told last", p.x.coin(0, 1, 1000), 7);
        p.x.price(1, 0, 9, 0);
        p.due("another CROP's", p.x.coin(0, 1, 1000), 7);
        p.x.price(0, 0, 0, 2000);
        p.due("a PRICE of 0", p.x.coin(0, 1, 2000), 0);
        p.x.acres(0, 0, 20);
        p.due("ACRES as they are now", p.x.coin(0, 1, 0), 10);
    }

    // ---- Terms IX

    /** "a YEAR's LINES' NUMBERS (of all told, in that YEAR)": known or not, and NONE is -1. */
    private static void sealedSums() {
        p.fresh();
        p.taken("no LINES", p.x.seal(5), 0);
        p.due("as it was", p.x.found(5), -1);
        p.line(3, 0, 5 * Y, LAST, 7, ".");
        p.due("a LINE came", p.x.found(5), -2);
        p.taken("anew", p.x.seal(5), 1);
        p.due("as it was", p.x.found(5), -1);
        p.line(3, 0, 5 * Y - 1, 0, 7, ".");
        p.line(3, 0, 6 * Y, 0, 7, ".");
        p.due("LINES of other YEARS came", p.x.found(5), -1);
        p.line(0, 0, 5 * Y + 365, 0, -1, ".");
        p.due("a LINE of the last DAY of it came", p.x.found(5), -2);
        p.x.seal(5);
        p.x.alter(3, 1);
        p.due("NONE ALTERED", p.x.found(5), 3);
        p.x.alter(3, 1);
        p.due("put right", p.x.found(5), -1);
        p.due("not SEALED", p.x.found(6), -3);
        p.due("not SEALED", p.x.found(4), -3);
    }

    /** "of all times their place from 1 on in the order of LINES": each place, each single bit. */
    private static void foundPlaces() {
        p.fresh();
        for (int n = 0; n < 20; n++) {
            p.line(3, 0, (n % 2 == 0 ? 5 : 6) * Y + n, 0, n * 50, ".");
        }
        p.x.seal(5);
        for (int line = 0; line < 20; line += 2) {
            for (int mask = 1; mask < 256; mask *= 2) {
                p.x.alter(line, mask);
                p.due("LINE " + line + " by " + mask, p.x.found(5), line);
                p.x.alter(line, mask);
            }
            p.x.alter(line, 255);
            p.due("LINE " + line + " by 255", p.x.found(5), line);
            p.x.alter(line, 255);
        }
        p.due("all put right", p.x.found(5), -1);
    }

    /** "-2, if there is none such (or LINES of that YEAR came since)" */
    private static void foundNone() {
        p.fresh();
        for (int n = 0; n < 3; n++) {
            p.line(3, 5 * Y, 100, ".");
        }
        p.x.seal(5);
        p.x.alter(0, 1);
        p.x.alter(1, 2);
        p.due("off by 3 and 5", p.x.found(5), -2);
        p.x.alter(1, 2);
        p.x.alter(1, 1);
        p.due("off by 2 and 3", p.x.found(5), -2);
        p.x.alter(2, 1);
        p.due("off by 3 and 6: the second looks so", p.x.found(5), 1);
        p.x.alter(0, 1);
        p.x.alter(1, 1);
        p.x.alter(2, 1);
        p.due("none", p.x.found(5), -1);
        p.x.alter(0, 4);
        p.x.alter(1, 4);
        p.x.alter(2, 4);
        p.x.alter(1, 4);
        // 100 has the bit of 4: 96, 100, 96: off by 8 and 16: the second, again.
        p.due("two that look as the one between", p.x.found(5), 1);
        p.line(3, 5 * Y, 0, ".");
        p.due("a LINE came since", p.x.found(5), -2);
        p.fresh();
        p.line(3, 5 * Y, 1, ".");
        p.line(3, 5 * Y, 2, ".");
        p.x.seal(5);
        p.x.alter(0, 3);
        p.x.alter(1, 3);
        p.due("the first sum is as it was, the second is not", p.x.found(5), -2);
        p.fresh();
        p.line(3, 5 * Y, 0, ".");
        p.x.seal(5);
        p.line(3, 5 * Y, 0, ".");
        p.due("of 0 pence, but it came since", p.x.found(5), -2);
    }

    /** Sums that are right for no place: one behind the last, 0, one below 0, one between two. */
    private static void foundNoPlace() {
        for (int year = 0; year < 400; year += 399) {
            int[][] masks = {{1, 2, 0}, {1, 1, 0}, {3, 1, 0}, {1, 2, 1}, {2, 1, 2}};
            for (int[] one : masks) {
                p.fresh();
                p.line(3, year * Y, 0, ".");
                p.line(3, year * Y, 2, ".");
                p.x.seal(year);
                p.x.alter(0, one[0]);
                p.x.alter(1, one[1]);
                int a = (0 ^ one[0]) - 0;
                int b = (2 ^ one[1]) - 2;
                int want = -2;
                for (int place = 1; place <= 2; place++) {
                    want = a + b != 0 && (a + b) * place == a + 2 * b ? place - 1 : want;
                }
                p.due("off by " + a + " and " + b + " in YEAR " + year, p.x.found(year), want);
            }
        }
    }

    /** "(No bound is asked of it any more. It may be NONE: status() tells.)" */
    private static void altered() {
        p.fresh();
        p.line(0, 0, -1, ".");
        p.line(2, 0, 0, ".");
        p.line(5, 0, 11, ".");
        p.line(4, 0, 100000, ".");
        p.taken("of a birth", p.x.alter(0, 255), -256);
        p.taken("to NONE again", p.x.alter(0, 255), -1);
        p.refused("REFUSED by -1", p.x.alter(0, 256), -1);
        p.taken("AGE 255", p.x.alter(1, 255), 255);
        p.due("of", p.x.of(1, 3), 255);
        p.taken("PARISH 244", p.x.alter(2, 255), 244);
        p.taken("PARISH 11", p.x.alter(2, 255), 11);
        p.taken("100,095", p.x.alter(3, 95), 100000 ^ 95);
        p.taken("0 again", p.x.alter(1, 255), 0);
    }

    // ---- IMAGES

    /** "IMAGES 0 .. 3 keep all that was told; BACK to one all is as it was then" */
    private static void imagesOfAll() {
        for (int k = 0; k < 4; k++) {
            ParishChest one = Scene.built();
            p.due("image", one.image(k), 0);
            tellMore(one);
            p.due("back", one.back(k), 0);
            ParishChest other = Scene.built();
            other.clear();
            other.end(0);
            // ACRES stay, and so do terms and SPELLINGS: they are told to the other one as well.
            tellWhatStays(other);
            new Twin(p).same("IMAGE " + k, one, other);
        }
    }

    /** One of each that is told, such that each is seen in what the scene asks. */
    private static void tellMore(ParishChest x) {
        x.end(0);
        Scene.line(x, 0, 1, 40 * Y, 0, -1, "ann lee, bob lee, eve fox.");
        Scene.line(x, 4, 0, 31 * Y, 0, 500, "ann lee.");
        x.apart(1, 3);
        x.apart(0, 6);
        x.together(2, 4, 0);
        x.torn(3, 0, LAST, 0);
        Scene.text(x, 1, 0, 0, "relief 1;seat 1;strike 0 clause 1;badge if dead;turn warden 3");
        x.fact(0, 2, 9, 20 * Y, 20 * Y, 0);
        x.appeal(5, LAST, 0);
        x.holding();
        x.value(0, 9999, 0, 0);
        x.value(1, 9999, 3 * Y, 0);
        x.split(2, 1, 2, 0, 0);
        x.hold(0, 18, 0, 0);
        x.hold(2, -1, 0, 0);
        x.levy(0, 1, 5, 0);
        x.pay(1, 0, 900, 0, 0);
        x.entry(2, 31, 9, 0);
        x.close(2, 31, 439, 30);
        x.price(0, 29, 9000, 0);
        x.seal(20);
        x.alter(4, 1);
        x.alter(5, 8);
        x.wish(9);
        tellWhatStays(x);
        Scene.feed(x, "abc");
    }

    private static void tellWhatStays(ParishChest x) {
        x.terms(1, 2, 3, 4, 5);
        x.end(0);
        Scene.feed(x, "nn>n");
        x.spell(0);
        x.acres(0, 0, 900);
    }

    /** "(IMAGES stay)", each as it was kept last. */
    private static void imagesStay() {
        p.fresh();
        for (int k = 0; k < 4; k++) {
            p.refused("not kept", p.x.back(k), -2);
        }
        for (int k = 0; k < 4; k++) {
            p.x.image(k);
            p.x.levy(0, 0, 0, 0);
        }
        int[] order = {2, 0, 3, 1, 1, 3};
        for (int k : order) {
            p.taken("back(" + k + ")", p.x.back(k), 0);
            p.due("LEVIES of IMAGE " + k, p.x.count(5), k);
        }
        p.x.image(0);
        p.x.back(1);
        p.x.back(0);
        p.due("kept anew", p.x.count(5), 3);
        p.refused("REFUSED: all stays", p.x.back(4), -1);
        p.due("LEVIES", p.x.count(5), 3);
        // A THING is told again in its place.
        p.fresh();
        p.x.image(0);
        p.x.holding();
        p.x.back(0);
        p.x.fact(0, 0, 0, 0, 0, 0);
        p.due("no LINE, no FACT", p.x.count(4), 0);
        p.line(3, 0, 5, ".");
        p.due("THING 0 is a LINE now", p.x.as(0, 3), 0);
        p.due("and no HOLDING", p.x.as(0, 9), -3);
    }

    /** TEXTS told in the same places as others that an IMAGE has. */
    private static void imagesOfTexts() {
        p.fresh();
        p.line(3, 0, 5, "ann lee.");
        p.x.image(0);
        p.law("seat 1;relief 1");
        p.law("seat 2");
        p.x.image(1);
        p.x.back(0);
        p.due("none", p.x.counts(7, 0, 0, 0, 0), Probe.NO_SUM);
        p.due("no TEXT 0", p.x.force(0, 0, 0, 0), -1);
        p.taken("another TEXT 0", p.law("badge"), 0);
        p.due("it has one CLAUSE", p.x.force(0, 1, 0, 0), -1);
        p.due("no seat", p.x.counts(7, 0, 0, 0, 0), Probe.NO_SUM);
        p.x.image(2);
        p.x.back(1);
        p.due("the old ones", p.x.counts(7, 0, 0, 0, 0), 2);
        p.due("the old TEXT 0", p.x.counts(3, 0, 0, 0, 1), 1);
        p.x.back(2);
        p.due("the other one", p.x.force(0, 1, 0, 0), -1);
        p.due("alone", p.x.count(1), 1);
    }

    /** BACK to fewer LINES nothing is seen of those that came behind them. */
    private static void backToFewerLines() {
        p.fresh();
        p.line(0, 20 * Y, -1, "ann lee, bob lee, eve lee.");
        p.line(1, 18 * Y, -1, "bob lee, eve lee.");
        for (int n = 0; n < 4; n++) {
            p.line(5, 0, 0, LAST, 5, ".");
        }
        p.x.together(1, 3, 0);
        p.x.image(0);
        p.line(0, 21 * Y, -1, "tom lee, bob lee, eve lee.");
        p.line(1, 22 * Y, -1, "bob lee, sue fox.");
        p.line(4, 21 * Y, 5, "bob lee.");
        p.x.together(1, 19, 0);
        p.x.together(1, 21, 0);
        p.x.together(1, 24, 0);
        int known = 100 * Y;
        for (int turn = 0; turn < 2; turn++) {
            boolean all = turn == 0;
            p.due("the second child", p.x.kin(1, known, 2, 1), all ? 18 : -1);
            p.due("the second spouse", p.x.kin(1, known, 3, 1), all ? 22 : -1);
            p.due("children", p.x.about(1, 22 * Y, known, 1), all ? 2 : 1);
            p.due("relieved", p.x.about(1, 21 * Y, known, 4), all ? 5 : 0);
            p.due("MENTIONS", p.x.mentions(1, known, 0, 0), all ? 5 : 2);
            p.due("SOULS without a burial", p.x.fill(2, 0, LAST, known, 0), all ? 7 : 4);
            p.due("SOULS without a birth", p.x.fill(0, 0, LAST, known, 0), all ? 5 : 3);
            p.due("LINES of YEAR 21", p.x.seal(21), all ? 2 : 0);
            p.due("LINE 6", p.x.of(6, 0), all ? 0 : -2);
            p.due("MENTION 18", p.x.soul(18, known), all ? 18 : -1);
            p.x.back(0);
        }
    }

    /** BACK to fewer HOLDINGS nothing is seen of those that came behind them. */
    private static void backToFewerHoldings() {
        p.fresh();
        p.line(3, 0, 5, "ann lee.");
        p.line(3, 0, 5, "bob lee.");
        for (int h = 0; h < 4; h++) {
            if (h == 3) {
                p.x.levy(0, 0, 8, 0);
                p.law("turn warden 0;seat value");
                p.x.image(0);
            }
            p.x.holding();
            p.x.value(h, h == 3 ? 7 : 1, 0, 0);
            p.x.hold(h, h == 3 ? 3 : 0, 0, 0);
        }
        int[][] owed = {{1, 1, 1, 5}, {3, 3, 2, -1}};
        for (int turn = 0; turn < 2; turn++) {
            boolean all = turn == 0;
            for (int h = 0; h < 4; h++) {
                p.due("HOLDING " + h + " owes", p.x.owe(0, h, 0), owed[turn][h]);
            }
            p.due("all owe", p.x.owe(0, -1, 0), 8);
            p.due("value", p.x.about(3, 0, 0, 2), all ? 7 : 0);
            p.due("value of the other", p.x.about(0, 0, 0, 2), 3);
            p.due("SEATS", p.x.seat(0, 0, -1), all ? 4 : 3);
            p.due("SEAT 0", p.x.seat(0, 0, 0), all ? 3 : 0);
            p.due("SEAT 3", p.x.seat(0, 0, 3), all ? 2 : -1);
            p.due("TURN of YEAR 3", p.x.turn(3, 3, 0, 0), all ? 3 : 0);
            p.due("uneven", p.x.turn(3, 3, 0, 2), all ? 0 : 1);
            p.due("HOLDING 3", p.x.house(3, 0, 0, 0), all ? 7 : -1);
            p.x.back(0);
        }
    }

    /** "(The TAPE is empty then, WISHES are none, terms, SPELLINGS, ACRES stay.)" */
    private static void backAndTheTape() {
        p.fresh();
        p.line(3, 0, 5, ".");
        p.x.image(0);
        p.x.wish(0);
        p.feed("abc");
        p.refused("no IMAGE: nothing changes", p.x.back(1), -2);
        p.due("bytes", p.x.count(8), 3);
        p.due("WISHES", p.x.count(7), 1);
        p.taken("back", p.x.back(0), 0);
        p.due("no bytes", p.x.count(8), 0);
        p.due("no WISHES", p.x.count(7), 0);
        p.due("WORTH of none", p.x.best(0, 0), 0);
        p.due("RIVALS of none", p.x.best(3, 0), 1);
        p.due("none to clear", p.x.clear(), 0);
        p.x.wish(0);
        p.feed("ab");
        p.taken("image() leaves both", p.x.image(0), 0);
        p.due("bytes", p.x.count(8), 2);
        p.due("WISHES", p.x.count(7), 1);
    }

    // ---- Terms X

    /** "THINGS are LINES, TEXTS, FACTS, HOLDINGS as they came into the chest, 0 on." A REFUSED one is none. */
    private static void thingsInOrder() {
        p.fresh();
        p.due("none", p.x.as(0, 6), -2);
        p.x.holding();
        p.law("badge");
        p.refused("no TEXT", p.law("bad"), -6);
        p.refused("no LINE", p.line(6, 0, 0, "."), -1);
        p.line(4, 0, 5, ".");
        p.x.split(0, 1, 2, 0, 0);
        p.refused("no FACT", p.x.fact(5, 0, 0, 0, 0, 0), -2);
        p.x.fact(0, 0, 0, 0, 0, 0);
        p.line(3, 0, 5, ".");
        p.law("badge");
        int[][] want = {{9, 0}, {7, 0}, {6, 0}, {9, 1}, {8, 0}, {6, 1}, {7, 1}};
        for (int thing = 0; thing < 7; thing++) {
            for (int kind = 6; kind < 10; kind++) {
                p.due("THING " + thing + " AS " + kind, p.x.as(thing, kind), want[thing][0] == kind ? want[thing][1] : -3);
            }
        }
        p.due("relief AS rates", p.x.as(2, 3), 0);
        p.due("relief AS relief", p.x.as(2, 4), 0);
        p.due("rates AS rates", p.x.as(5, 3), 1);
        p.due("rates AS relief", p.x.as(5, 4), -3);
        p.due("relief AS births", p.x.as(2, 0), -3);
        p.due("a TEXT AS a LINE of BOOK 0", p.x.as(1, 0), -3);
        p.due("there are seven", p.x.as(7, 6), -2);
        p.due("count(4)", p.x.count(4), 7);
    }

    // ---- status

    /** "What the latest call of those that can be REFUSED .. was REFUSED by; 0 if it was not, or ahead of any." */
    private static void statusOfEach() {
        p.fresh();
        p.due("ahead of any", p.x.status(), 0);
        String[] calls = {"line 6 0 0 0 0", "spell 16", "terms -1 0 0 0 0", "apart 0 0", "together 0 0 -1", "wish 0", "join -1",
            "torn 6 0 0 0", "text 2 0 0", "fact 0 5 0 0 0 0", "appeal 0 -1 0", "value 0 -1 0 0", "split 0 0 0 0 0", "hold 0 0 -1 0",
            "levy 3 0 0 0", "pay 0 0 0 0 0", "entry 4 0 0 0", "close 4 0 0 0", "acres 0 3 0", "price 3 0 0 0", "seal 400",
            "alter 0 0", "image 4", "back 4"};
        for (String one : calls) {
            String[] words = one.split(" ");
            int[] a = new int[words.length - 1];
            for (int i = 0; i < a.length; i++) {
                a[i] = Integer.parseInt(words[i + 1]);
            }
            p.taken("image ahead of " + one, p.x.image(0), 0);
            long got = Calls.put(p.x, words[0], a);
            p.due("status() behind " + one, p.x.status(), got);
            p.due("it is below 0", got < 0 ? 1 : 0, 1);
            p.due("asked again", p.x.status(), got);
        }
        for (int n = 0; n < 40; n++) {
            p.taken("holding", p.x.holding(), n);
        }
        p.refused("holding", p.x.holding(), -5);
        p.taken("another call", p.x.terms(0, 0, 0, 0, 0), 0);
    }

    /** No other call changes it, whatever it answers. */
    private static void statusOfNone() {
        String[] calls = {"feed 0 0 0 0 0", "end 999", "fault", "of 99 0", "name 99 0 0", "piece 99 0 0 9", "reason 99 0", "worth 99 0",
            "waits -1 0", "soul 99 0", "mentions 99 0 0 0", "kin 99 0 0 0", "span 99 0 0", "clear", "best 9 0", "group 9",
            "fill 9 0 0 0 0", "force 99 0 0 0", "holds 99 0 0 0 0", "counts 9 0 0 0 0", "about 99 0 0 0", "belong 99 0 0 0",
            "order 99 0 0", "house 99 0 0 0", "owe 99 0 0", "arrear 99 0 0 0", "turn 9 0 0 0", "balance 9 0 0", "beyond 99 0",
            "badge 99 0 0", "seat -1 0 0", "fee 99 0", "coin 99 0 0", "found 999", "as 99 99", "count 99", "status"};
        for (int refused = 0; refused < 2; refused++) {
            ParishChest x = Scene.built();
            int want = refused == 1 ? x.alter(0, 0) : 0;
            for (String one : calls) {
                String[] words = one.split(" ");
                int[] a = new int[words.length - 1];
                for (int i = 0; i < a.length; i++) {
                    a[i] = Integer.parseInt(words[i + 1]);
                }
                Calls.put(x, words[0], a);
                p.due("status() behind " + one, x.status(), want);
            }
        }
    }
}
