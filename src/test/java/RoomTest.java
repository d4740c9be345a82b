/**
 * All that there is room for "at most": none of it, the last one, which does what all others do, and the one behind it,
 * which is REFUSED by -5 (a TEXT by its FAULT) and changes nothing; and what else it might be REFUSED by comes first.
 */
public final class RoomTest {
    private static final Probe p = new Probe();
    private static final int Y = 366;
    private static final int LAST = 146399;

    public static void main(String[] args) {
        bytes();
        linesOfBirths();
        linesOfWeddings();
        linesOfOthers();
        pairs();
        aparts();
        togethers();
        joins();
        wishes();
        pages();
        texts();
        clauses();
        parts();
        brackets();
        facts();
        appeals();
        holdings();
        splits();
        values();
        helds();
        levies();
        paid();
        entries();
        closings();
        prices();
        things();
        fullImage();
        p.finish("RoomTest");
    }

    /** REFUSED by -5: status() tells it, and the counts are as they were. */
    private static void full(String what, String call, int... a) {
        long[] before = counts();
        p.refused(what, Calls.put(p.x, call, a), -5);
        long[] behind = counts();
        for (int i = 0; i < before.length; i++) {
            p.due(what + ": count(" + i + ")", behind[i], before[i]);
        }
    }

    private static long[] counts() {
        long[] all = new long[12];
        for (int i = 0; i < 12; i++) {
            all[i] = p.x.count(i);
        }
        return all;
    }

    /** "a TAPE of at most 400 bytes": twenty times twenty; a TEXT may be as long. */
    private static void bytes() {
        p.fresh();
        p.due("none", p.x.count(8), 0);
        StringBuilder text = new StringBuilder("badge");
        while (text.length() < 400) {
            text.append(' ');
        }
        for (int n = 0; n < 20; n++) {
            int[] blanks = n == 0 ? new int[] {0x62616467, 0x65202020} : new int[] {0x20202020, 0x20202020};
            p.due("feed " + n, p.x.feed(blanks[0], blanks[1], 0x20202020, 0x20202020, n == 19 ? 0x2020203b : 0x20202020),
                    n * 20 + 20);
        }
        p.due("the 401st", p.x.feed(0x61616161, 0, 0, 0, 0), -1);
        p.due("it has 400", p.x.count(8), 400);
        p.due("the end's FAULT is the TEXT's length", p.x.text(0, 0, 0), -6);
        p.due("400", p.x.fault(), 400);
        p.due("400 bytes", p.feed(text.toString()), 400);
        p.taken("a TEXT of 400 bytes", p.x.text(0, 0, 0), 0);
        p.due("380 bytes", p.feed(text.substring(0, 380)), 380);
        p.due("and 20 more", p.x.feed(0, 0, 0, 0, 0), 400);
        p.due("cut", p.x.end(381), 381);
        p.due("381 and 20 more", p.x.feed(0, 0, 0, 0, 0), -1);
        p.due("it has 381", p.x.count(8), 381);
        p.due("the last byte is the 380th's neighbour", p.x.text(0, 0, 0), -6);
        p.due("it is no blank", p.x.fault(), 380);
    }

    private static void fillLines(int many) {
        p.fresh();
        for (int n = 0; n < many; n++) {
            p.due("line " + n, p.x.line(3, 0, 5, 5, 1), n);
        }
    }

    /** "LINES 0 .. 199 (200 at most)": LINE 199's MENTIONS 597 .. 599 are as all others. */
    private static void linesOfBirths() {
        fillLines(198);
        p.taken("LINE 198", p.line(0, 60 * Y, -1, "ann lee, tom lee, eve lee."), 198);
        p.taken("LINE 199", p.line(0, 61 * Y, -1, "sue lee, tom lee, eve lee."), 199);
        full("LINE 200", "line", 2, 0, 0, 0, 5);
        p.refused("LINE 200, with a TEXT", p.line(2, 0, 5, "bob lee."), -5);
        p.due("the TAPE is empty", p.x.count(8), 0);
        p.due("there is none", p.x.of(200, 0), -2);
        p.due("there is no MENTION 600", p.x.soul(600, LAST), -1);
        p.due("a letter of the last NAME", p.x.name(599, 1, 2), 'e');
        p.due("a piece of it", p.x.piece(599, 1, 2, 1), 5);
        p.due("KIN of both by the mothers", p.x.worth(595, 598), 40);
        p.due("KIN of both by the fathers", p.x.worth(596, 599), 40);
        p.taken("together", p.x.together(595, 598, 0), 1);
        p.taken("together", p.x.together(596, 599, 0), 2);
        p.due("the last MENTION's SOUL", p.x.soul(599, LAST), 596);
        p.due("its first child", p.x.kin(599, LAST, 2, 0), 594);
        p.due("its second child", p.x.kin(599, LAST, 2, 1), 597);
        p.due("children", p.x.about(599, 61 * Y, LAST, 1), 2);
        p.due("the last child's mother", p.x.kin(597, LAST, 1, 0), 596);
        p.due("SPAN", p.x.span(597, LAST, 0), 61 * Y);
        p.due("LEAST has the last child and its mother", p.x.fill(2, 61 * Y, LAST, LAST, 0), 2);
        p.due("how many LINES YEAR 61 has", p.x.seal(61), 1);
        p.taken("the last LINE ALTERED", p.x.alter(199, 2), -3);
        p.due("the last LINE FOUND", p.x.found(61), 199);
    }

    private static void linesOfWeddings() {
        fillLines(199);
        p.taken("LINE 199", p.line(1, 60 * Y, -1, "tom lee, eve fox."), 199);
        p.due("the groom's spouse", p.x.kin(597, LAST, 3, 0), 598);
        p.due("the bride's spouse", p.x.kin(598, LAST, 3, 0), 597);
        p.due("no third ROLE", p.x.soul(599, LAST), -1);
        p.due("married", p.x.about(598, 60 * Y, LAST, 5), 1);
        p.law("belong wed;belong birth;fee wedding 9");
        p.x.fact(597, 0, 8, 0, 0, 0);
        p.due("the bride BELONGS where he does", p.x.belong(598, 60 * Y, LAST, 0), 8);
        p.due("FEE", p.x.fee(199, LAST), 9);
        p.due("the last THING", p.x.as(199, 1), 199);
    }

    private static void linesOfOthers() {
        fillLines(197);
        p.taken("LINE 197", p.line(2, 62 * Y, 40, "ann lee."), 197);
        p.taken("LINE 198", p.line(4, 61 * Y, 40, "ann lee."), 198);
        p.taken("LINE 199", p.line(5, 61 * Y, 7, "ann lee."), 199);
        p.x.together(597, 594, 0);
        p.x.together(597, 591, 0);
        p.due("one SOUL of the last three", p.x.mentions(597, LAST, 1, 2), 597);
        p.due("its relief", p.x.about(597, 61 * Y, LAST, 4), 40);
        p.due("dead", p.x.about(597, 62 * Y, LAST, 6), 1);
        p.due("BEYOND of LINE 198", p.x.beyond(198, LAST), 40);
        p.taken("an APPEAL of LINE 199", p.x.appeal(199, 61 * Y, 0), 1);
        p.due("BACK", p.x.order(199, LAST, 2), 40);
        p.refused("no number ahead of no room", p.line(6, 0, 0, "."), -1);
        p.refused("no room ahead of no TEXT", p.line(2, 0, 0, "3"), -5);
        p.due("no FAULT", p.x.fault(), -1);
    }

    /** "8 PAIRS at most (FAULT at the 9th's first TOKEN)" */
    private static void pairs() {
        p.fresh();
        p.line(2, 0, -1, "abcdefgh i.");
        p.taken("none", p.spell(0, ""), 0);
        p.taken("one", p.spell(0, "a>z"), 1);
        String eight = "a>b,b>c,c>d,d>e,e>f,f>g,g>h,h>z";
        p.taken("eight", p.spell(0, eight), 8);
        p.due("the eighth", p.x.name(0, 0, 7), 'z');
        p.refused("nine", p.spell(0, eight + ",i>y"), -6);
        p.due("the ninth's first TOKEN", p.x.fault(), eight.length() + 1);
        p.refused("nine, a blank ahead of it", p.spell(0, eight + ",  i>y"), -6);
        p.due("the ninth's first TOKEN", p.x.fault(), eight.length() + 3);
        p.refused("the ninth is no PAIR at all", p.spell(0, eight + ",;"), -6);
        p.due("it is the FAULT, too", p.x.fault(), eight.length() + 1);
        p.refused("the end instead of a ninth", p.spell(0, eight + ","), -6);
        p.due("the TEXT's length", p.x.fault(), eight.length() + 1);
        p.refused("no \",\" behind the eighth", p.spell(0, eight + " i>y"), -6);
        p.due("the TOKEN there", p.x.fault(), eight.length() + 1);
        p.due("they stay", p.x.name(0, 0, 7), 'z');
        p.due("they stay", p.x.name(0, 1, 0), 'i');
    }

    /** "-5 (60)" */
    private static void aparts() {
        p.fresh();
        for (int n = 0; n < 62; n++) {
            p.line(3, 0, 0, "?.");
        }
        for (int n = 1; n <= 60; n++) {
            p.taken("apart " + n, p.x.apart(0, n * 3), 0);
        }
        full("the 61st", "apart", 0, 183);
        p.due("the first", p.x.reason(0, 3), 2);
        p.due("the 60th", p.x.reason(180, 0), 2);
        p.due("not the 61st", p.x.reason(0, 183), 0);
        full("told before, too", "apart", 0, 3);
        p.refused("no MENTION comes first", p.x.apart(0, 1), -2);
        p.refused("one with itself comes first", p.x.apart(6, 6), -3);
    }

    /** "-5 (200)" */
    private static void togethers() {
        p.fresh();
        p.line(0, 20 * Y, -1, "ann lee, bob lee, eve lee.");
        p.line(3, 60 * Y, 0, "ann lee.");
        p.line(3, 60 * Y, 0, "ann lee.");
        for (int n = 1; n <= 199; n++) {
            p.due("together " + n, p.x.together(0, n % 2 + 1, n), n);
        }
        p.taken("the 200th", p.x.together(0, 3, 0), 200);
        full("the 201st", "together", 3, 6, 0);
        p.due("the 200th is as all others", p.x.soul(3, LAST), 0);
        p.due("not the 201st", p.x.soul(6, LAST), 6);
        p.due("199 WAIT", p.x.waits(LAST, -1), 199);
        p.due("the last of them", p.x.waits(LAST, 198), 198);
        p.due("none behind it", p.x.waits(LAST, 199), -1);
        p.due("as known on DAY 1", p.x.waits(1, -1), 0);
        p.due("as known on DAY " + 20 * Y, p.x.waits(20 * Y, 198), 198);
        p.refused("no DAY comes first", p.x.together(3, 6, -1), -1);
        p.refused("no MENTION comes first", p.x.together(3, 7, 0), -2);
        p.refused("one SOUL comes first", p.x.together(0, 3, 0), -4);
        p.fresh();
        p.line(1, 0, -1, "ann lee, bob lee.");
        for (int n = 0; n < 200; n++) {
            p.x.together(0, 1, 0);
        }
        p.due("all 200 WAIT", p.x.waits(0, -1), 200);
        p.due("the 200th", p.x.waits(0, 199), 199);
        p.due("none behind it", p.x.waits(0, 200), -1);
    }

    /** "-5 (nothing is told then)": two at once, with room for one, for two. */
    private static void joins() {
        for (int room = 0; room < 4; room++) {
            p.fresh();
            p.line(1, 0, -1, "ann lee, bob lee.");
            for (int n = 0; n < 3; n++) {
                p.line(3, n, 0, "sue lee.");
            }
            for (int n = 0; n < 200 - room; n++) {
                p.x.together(0, 1, 0);
            }
            p.x.wish(3);
            p.x.wish(6);
            p.x.wish(9);
            if (room < 2) {
                full("join of two, room for " + room, "join", LAST);
                p.due("nothing is told", p.x.soul(6, LAST), 6);
                p.due("WISHES stay", p.x.group(2), 0);
                p.refused("no DAY comes first", p.x.join(146400), -1);
            } else {
                p.taken("join of two, room for " + room, p.x.join(LAST), 2);
                p.due("told", p.x.soul(9, LAST), 3);
                p.due("count(6)", p.x.count(6), 202 - room);
            }
        }
    }

    /** "WISHED MENTIONS, 9 at most" */
    private static void wishes() {
        p.fresh();
        for (int n = 0; n < 10; n++) {
            p.line(3, n, 0, "?.");
        }
        for (int n = 1; n <= 9; n++) {
            p.taken("wish " + n, p.x.wish(n * 3), n);
        }
        full("the tenth", "wish", 0);
        p.refused("twice comes first", p.x.wish(27), -4);
        p.refused("no MENTION comes first", p.x.wish(30), -2);
        p.due("the ninth is in a group", p.x.group(8), 0);
        p.due("there is no tenth", p.x.group(9), -1);
        p.due("all JOININGS of nine", p.x.best(3, 1000), 21147);
        p.due("clear()", p.x.clear(), 9);
        p.due("without WISHES: WORTH", p.x.best(0, 0), 0);
        p.due("without WISHES: groups", p.x.best(1, 0), 0);
        p.due("without WISHES: BOUND", p.x.best(2, 0), 0);
        p.due("without WISHES: RIVALS", p.x.best(3, 1000), 1);
        p.due("no group", p.x.group(0), -1);
        p.due("none to join", p.x.join(0), 0);
        p.taken("there is room again", p.x.wish(0), 1);
        p.due("groups of one", p.x.best(1, 0), 1);
    }

    /** "PAGES TORN .. 20 at most" */
    private static void pages() {
        p.fresh();
        p.line(4, 0, 1, 0, 5, "?.");
        for (int n = 1; n < 20; n++) {
            p.taken("torn " + n, p.x.torn(3, n, n, 0), n);
        }
        // One LINE on the 10 DAYS ahead, none on those behind: by 3670 DAYS, by 10.
        p.due("as long as none is TORN", p.x.fill(4, 10, 99, 0, 2), 0);
        p.taken("the 20th", p.x.torn(4, 100, LAST, 0), 20);
        p.due("the 20th counts", p.x.fill(4, 10, 99, 0, 2), 9);
        full("the 21st", "torn", 4, 0, 0, 0);
        p.due("the 21st does not", p.x.fill(4, 10, 99, 0, 2), 9);
        p.refused("no BOOK comes first", p.x.torn(6, 0, 0, 0), -1);
    }

    /** "LAWS (sort 0) and WORDS (1) are TEXTS, 30 at most" */
    private static void texts() {
        p.fresh();
        p.line(3, 0, 0, "ann lee.");
        for (int n = 0; n < 30; n++) {
            p.taken("text " + n, p.text(n % 2, 0, 0, "seat " + n), n);
        }
        p.due("the last one COUNTS", p.x.counts(7, 0, 0, 0, 0), 29);
        p.due("by TEXT 29", p.x.counts(7, 0, 0, 0, 1), 29 * 12);
        p.due("all others QUARREL", p.x.counts(7, 0, 0, 0, 2), 29);
        p.feed("seat 30");
        long[] before = counts();
        p.refused("the 31st", p.x.text(0, 0, 0), -5);
        p.due("the TAPE is empty", p.x.count(8), 0);
        p.due("count(1)", p.x.count(1), before[1]);
        p.due("count(4)", p.x.count(4), before[4]);
        p.due("it COUNTS not", p.x.counts(7, 0, 0, 0, 0), 29);
        p.due("there is none", p.x.force(30, 0, 0, 0), -1);
        p.due("in force", p.x.force(29, 0, 0, 0), 1);
        p.refused("no number ahead of no room", p.text(2, 0, 0, "seat 1"), -1);
        p.refused("no room ahead of no TEXT", p.text(1, 0, 0, "3"), -5);
        p.due("no FAULT", p.x.fault(), -1);
    }

    /** "CLAUSE {\";\" CLAUSE}, 12 at most (the 13th's first TOKEN)" */
    private static void clauses() {
        p.fresh();
        p.line(3, 0, 0, "ann lee.");
        p.badText("", 0);
        p.goodText("seat 1");
        p.due("no CLAUSE 1", p.x.force(0, 1, 0, 0), -1);
        StringBuilder twelve = new StringBuilder("seat 1");
        for (int n = 2; n <= 12; n++) {
            twelve.append("; seat ").append(n);
        }
        p.goodText(twelve.toString());
        p.due("the twelfth COUNTS", p.x.counts(7, 0, 0, 0, 0), 12);
        p.due("as TEXT 1, CLAUSE 11", p.x.counts(7, 0, 0, 0, 1), 23);
        p.due("CLAUSE 11", p.x.holds(1, 11, 0, 0, 0), 1);
        p.due("no CLAUSE 12", p.x.holds(1, 12, 0, 0, 0), -1);
        p.badText(twelve + ";seat 13", twelve.length() + 1);
        p.badText(twelve + ";  seat 13", twelve.length() + 3);
        p.badText(twelve + ";13", twelve.length() + 1);
        p.badText(twelve + ";", twelve.length() + 1);
        p.badText(twelve + " seat 13", twelve.length() + 1);
        p.goodText("strike 1 clause 11");
        p.due("the twelfth STRUCK", p.x.force(1, 11, 0, 0), 0);
        p.due("the eleventh COUNTS", p.x.counts(7, 0, 0, 0, 0), 11);
    }

    /** "60 NUMBERS and words that are PARTS, and words that are PLAINS by themselves (FAULT at the 61st)" in a TEXT. */
    private static void parts() {
        p.fresh();
        p.line(3, 0, 0, "ann lee.");
        StringBuilder sum = new StringBuilder("seat 1");
        for (int n = 1; n < 56; n++) {
            sum.append(n % 2 == 0 ? "+1" : "+age");
        }
        String fifty9 = sum + " if poor or age < 1";
        p.goodText(fifty9);
        p.goodText(fifty9 + ";badge if not dead");
        p.badText(fifty9 + ";badge if dead and (poor)", fifty9.length() + 20);
        p.badText(fifty9 + ";badge if dead unless dead", fifty9.length() + 22);
        p.badText(fifty9 + ";badge if dead;relief 5", fifty9.length() + 22);
        p.badText(fifty9 + ";badge if dead or 5 < 6", fifty9.length() + 18);
        p.badText(fifty9 + ";relief 5 + 100001", fifty9.length() + 12);
        p.badText(fifty9 + ";badge if 5 < [age]", fifty9.length() + 15);
        p.goodText(fifty9 + ";relief 5;turn warden 1;strike 3 clause 2;exempt poor;belong birth");
        p.due("55 of 28 ones, 28 of age 0", p.x.counts(7, 0, 0, 0, 0), 28);
    }

    /** "8 brackets within one another of both kinds (FAULT at the 9th)" */
    private static void brackets() {
        for (int round = 0; round <= 9; round++) {
            // So many "(" and the rest "[" within them: the ninth is the FAULT.
            p.fresh();
            p.badText("badge if " + times("(", round) + times("[", 9 - round) + "1", 9 + 8);
        }
        for (int round = 0; round <= 8; round++) {
            p.fresh();
            String text = "badge if " + times("(", round) + times("[", 8 - round) + "1" + times("]", 8 - round) + "<2"
                    + times(")", round);
            p.goodText(text);
        }
        p.fresh();
        p.goodText("seat [1] + [[2]] * [[[3]]];badge if (1 < 2) or ((poor)) and (((dead)))");
        p.goodText("seat [[[[[[[[1]]]]]]]] + [[[[[[[[1]]]]]]]]");
        p.badText("seat [[[[[[[[1]]]]]]]] + [[[[[[[[[1", 33);
    }

    private static String times(String sign, int many) {
        StringBuilder row = new StringBuilder();
        for (int n = 0; n < many; n++) {
            row.append(sign);
        }
        return row.toString();
    }

    /** "FACTS, 100 at most" */
    private static void facts() {
        p.fresh();
        p.line(3, 0, 0, "ann lee.");
        p.law("belong birth");
        p.due("none", p.x.belong(0, 0, 0, 0), -1);
        for (int n = 1; n <= 100; n++) {
            p.taken("fact " + n, p.x.fact(0, 0, n == 100 ? 11 : 1, 0, 0, 0), n);
        }
        p.due("the 100th is the one told last", p.x.belong(0, 0, 0, 0), 11);
        full("the 101st", "fact", 0, 0, 5, 0, 0, 0);
        p.due("it gives none", p.x.belong(0, 0, 0, 0), 11);
        p.due("the last THING", p.x.as(101, 8), 99);
        p.due("none behind it", p.x.as(102, 8), -2);
        p.refused("no number comes first", p.x.fact(0, 0, 12, 0, 0, 0), -1);
        p.refused("no MENTION comes first", p.x.fact(1, 0, 0, 0, 0, 0), -2);
    }

    /** "APPEALS, 40 at most" */
    private static void appeals() {
        p.fresh();
        p.line(5, 0, 100, 0, 1, "ann lee.");
        p.line(5, 0, 100, 0, 1, "bob lee.");
        p.line(5, 0, 100, 0, 1, "tom lee.");
        for (int n = 1; n < 40; n++) {
            p.taken("appeal " + n, p.x.appeal(0, 100, 0), n);
        }
        p.taken("the 40th", p.x.appeal(1, 100, 0), 40);
        p.due("the 40th", p.x.order(1, 0, 1), 1);
        full("the 41st", "appeal", 2, 100, 0);
        p.due("the 41st", p.x.order(2, 0, 1), 0);
        p.refused("no DAY comes first", p.x.appeal(2, -1, 0), -1);
        p.refused("no LINE comes first", p.x.appeal(3, 100, 0), -2);
        p.refused("a DAY ahead of the ORDER's comes first", p.x.appeal(2, 99, 0), -1);
    }

    /** "HOLDINGS 0 .. 39 (40 at most)" */
    private static void holdings() {
        p.fresh();
        p.line(3, 0, 0, "ann lee.");
        p.due("none", p.x.house(0, 0, 0, 0), -1);
        for (int n = 0; n < 40; n++) {
            p.taken("holding " + n, p.x.holding(), n);
        }
        p.x.value(39, 70, 0, 0);
        p.x.hold(39, 0, 0, 0);
        p.x.levy(0, 0, 9, 0);
        p.law("turn warden 0;seat 5");
        full("the 41st", "holding");
        full("the 41st by a SPLIT", "split", 39, 1, 2, 0, 0);
        p.due("there is none", p.x.house(40, 0, 0, 0), -1);
        p.due("its VALUE", p.x.house(39, 0, 0, 0), 70);
        p.due("its holder", p.x.house(39, 0, 0, 1), 0);
        p.due("it owes", p.x.owe(0, 39, 0), 9);
        p.due("value", p.x.about(0, 0, 0, 2), 70);
        p.due("its SEAT", p.x.seat(0, 0, 0), 39);
        p.due("its TURN", p.x.turn(3, 0, 0, 0), 39);
        p.due("PASSED", p.x.turn(3, 0, 0, 1), 39);
        p.due("its TURN again", p.x.turn(3, 1, 0, 0), 39);
        p.due("PASSED", p.x.turn(3, 1, 0, 1), 39);
        p.due("served twice, the others never", p.x.turn(3, 1, 0, 2), 2);
        p.taken("its ACRES", p.x.acres(39, 2, 10), 0);
    }

    private static void splits() {
        p.fresh();
        p.x.holding();
        p.x.value(0, 10000, 0, 0);
        for (int n = 1; n < 40; n++) {
            p.taken("split " + n, p.x.split(n - 1, 99, 100, 0, 0), n);
        }
        full("the 41st", "split", 0, 1, 2, 0, 0);
        p.refused("no number comes first", p.x.split(0, 2, 2, 0, 0), -1);
        p.refused("no HOLDING comes first", p.x.split(40, 1, 2, 0, 0), -2);
        int whole = 10000;
        for (int n = 0; n < 40; n++) {
            int taken = n < 39 ? whole * 99 / 100 : 0;
            p.due("what is left of " + n, p.x.house(n, 0, 0, 0), whole - taken);
            whole = taken;
        }
    }

    /** "VALUES told, 100 at most" */
    private static void values() {
        p.fresh();
        p.x.holding();
        p.x.split(0, 1, 2, LAST, LAST);
        for (int n = 1; n <= 100; n++) {
            p.taken("value " + n, p.x.value(0, n, 0, 0), n);
        }
        p.due("the 100th", p.x.house(0, 0, 0, 0), 100);
        full("the 101st", "value", 0, 7, 0, 0);
        p.due("not told", p.x.house(0, 0, 0, 0), 100);
        p.refused("no number comes first", p.x.value(0, 10001, 0, 0), -1);
        p.refused("no HOLDING comes first", p.x.value(2, 7, 0, 0), -2);
        p.refused("a SPLIT one comes first", p.x.value(1, 7, 0, 0), -3);
    }

    /** "HELD, 100 at most" */
    private static void helds() {
        p.fresh();
        p.line(3, 0, 0, "ann lee.");
        p.line(3, 0, 0, "bob lee.");
        p.x.holding();
        for (int n = 1; n < 100; n++) {
            p.taken("hold " + n, p.x.hold(0, -1, 0, 0), n);
        }
        p.taken("the 100th", p.x.hold(0, 3, 0, 0), 100);
        p.due("the 100th", p.x.house(0, 0, 0, 1), 3);
        full("the 101st", "hold", 0, 0, 0, 0);
        p.due("not told", p.x.house(0, 0, 0, 1), 3);
        p.refused("no DAY comes first", p.x.hold(0, 0, 0, -1), -1);
        p.refused("no MENTION comes first", p.x.hold(0, 6, 0, 0), -2);
        p.refused("no HOLDING comes first", p.x.hold(1, 0, 0, 0), -2);
    }

    /** "LEVIES 0 .. 39 (40 at most)" */
    private static void levies() {
        p.fresh();
        p.line(3, 0, 0, "ann lee.");
        p.x.holding();
        p.x.value(0, 5, 0, 0);
        p.x.hold(0, 0, 0, 0);
        p.due("none", p.x.owe(0, 0, 0), -1);
        for (int n = 0; n < 40; n++) {
            p.taken("levy " + n, p.x.levy(0, 0, n, 0), n);
        }
        full("the 41st", "levy", 0, 0, 7, 0);
        p.due("LEVY 39", p.x.owe(39, 0, 0), 39);
        p.due("there is none", p.x.owe(40, 0, 0), -1);
        p.due("PAID of the last", p.x.pay(39, 0, 40, 0, 0), 1);
        p.due("its ARREAR", p.x.arrear(39, 0, 0, 0), -1);
        p.due("the others'", p.x.arrear(38, 0, 0, 0), 38);
        p.refused("no number comes first", p.x.levy(3, 0, 7, 0), -1);
    }

    /** "PAID, 100 at most" */
    private static void paid() {
        p.fresh();
        p.x.holding();
        p.x.levy(0, 0, 0, 0);
        for (int n = 1; n <= 100; n++) {
            p.taken("pay " + n, p.x.pay(0, 0, n == 100 ? 1000 : 1, 0, 0), n);
        }
        full("the 101st", "pay", 0, 0, 5, 0, 0);
        p.due("all hundred", p.x.arrear(0, 0, 0, 0), -1099);
        p.refused("no pence come first", p.x.pay(0, 0, 0, 0, 0), -1);
        p.refused("no LEVY comes first", p.x.pay(1, 0, 5, 0, 0), -2);
        p.refused("no HOLDING comes first", p.x.pay(0, 1, 5, 0, 0), -2);
    }

    /** "ENTRIES, 100 at most" */
    private static void entries() {
        p.fresh();
        for (int n = 1; n <= 100; n++) {
            p.taken("entry " + n, p.x.entry(1, 7, n == 100 ? 1000 : 1, 0), n);
        }
        full("the 101st", "entry", 1, 7, 5, 0);
        p.due("all hundred", p.x.balance(1, 7, 0), 1099);
        p.refused("no number comes first", p.x.entry(4, 7, 5, 0), -1);
    }

    /** "CLOSED, 40 at most" of all OFFICES together. */
    private static void closings() {
        p.fresh();
        p.x.entry(3, 20, 9, 0);
        for (int n = 0; n < 39; n++) {
            p.taken("close " + n, p.x.close(n % 3, n / 3, 0, 0), 0);
        }
        p.taken("the 40th", p.x.close(3, 20, 9, 5), 0);
        p.due("the 40th", p.x.balance(3, 21, 5), 9);
        p.refused("the 41st", p.x.close(3, 21, 9, 5), -5);
        p.due("not CLOSED", p.x.balance(3, 22, 5), 0);
        p.refused("another BALANCE comes first", p.x.close(3, 21, 8, 5), -3);
        p.refused("another YEAR comes first", p.x.close(3, 22, 0, 5), -3);
        p.refused("no OFFICE comes first", p.x.close(4, 21, 9, 5), -1);
    }

    /** "PRICES, 100 at most" */
    private static void prices() {
        p.fresh();
        p.x.holding();
        p.x.acres(0, 1, 10);
        for (int n = 1; n <= 100; n++) {
            p.taken("price " + n, p.x.price(1, 7, n, 0), n);
        }
        full("the 101st", "price", 1, 7, 5, 0);
        p.due("the 100th", p.x.coin(0, 8, 0), 100);
        p.refused("no number comes first", p.x.price(1, 400, 5, 0), -1);
    }

    /** THINGS are LINES, TEXTS, FACTS, HOLDINGS: 200, 30, 100, 40. */
    private static void things() {
        p.fresh();
        for (int n = 0; n < 200; n++) {
            p.x.line(3, 0, 0, 0, 0);
        }
        for (int n = 0; n < 100; n++) {
            p.x.fact(0, 0, 0, 0, 0, 0);
        }
        for (int n = 0; n < 40; n++) {
            p.x.holding();
        }
        for (int n = 0; n < 30; n++) {
            p.x.feed(0x62616467, 0x65202020, 0x20202020, 0x20202020, 0x20202020);
            p.due("text " + n, p.x.text(0, 0, 0), n);
        }
        p.due("all THINGS", p.x.count(4), 370);
        p.due("the first", p.x.as(0, 3), 0);
        p.due("the last LINE", p.x.as(199, 6), 199);
        p.due("the last FACT", p.x.as(299, 8), 99);
        p.due("the last HOLDING", p.x.as(339, 9), 39);
        p.due("the last TEXT", p.x.as(369, 7), 29);
        p.due("there is none behind it", p.x.as(370, 7), -2);
    }

    /** An IMAGE of a chest that is full of all is as good as any. */
    private static void fullImage() {
        p.fresh();
        for (int n = 0; n < 200; n++) {
            p.x.line(3, 0, 0, 0, n);
        }
        p.taken("image", p.x.image(3), 0);
        for (int n = 0; n < 100; n++) {
            p.x.fact(0, 0, 7, 0, 0, 0);
        }
        for (int n = 0; n < 40; n++) {
            p.x.holding();
            p.x.levy(0, 0, n, 0);
        }
        p.taken("image", p.x.image(0), 0);
        p.taken("back", p.x.back(3), 0);
        p.due("LINES", p.x.count(0), 200);
        p.due("FACTS", p.x.count(2), 0);
        p.due("HOLDINGS", p.x.count(3), 0);
        p.taken("back", p.x.back(0), 0);
        p.due("LINES", p.x.count(0), 200);
        p.due("the last LINE", p.x.of(199, 3), 199);
        p.due("FACTS", p.x.count(2), 100);
        p.due("HOLDINGS", p.x.count(3), 40);
        p.due("LEVIES", p.x.count(5), 40);
        p.due("THINGS", p.x.count(4), 340);
        full("there is no room", "fact", 0, 0, 7, 0, 0, 0);
        full("there is no room", "holding");
        full("there is no room", "levy", 0, 0, 0, 0);
    }
}
