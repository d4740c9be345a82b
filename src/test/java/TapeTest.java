/** Promises 1 to 9: a new object, the TAPE, LINES, SPELLINGS, NAMES. */
public final class TapeTest {
    private static final Probe p = new Probe();

    public static void main(String[] args) {
        newObject();
        feedAndEnd();
        lines();
        tornLines();
        badLines();
        lineBounds();
        of();
        spellings();
        badSpellings();
        names();
        pieces();
        p.finish("TapeTest");
    }

    private static void newObject() {
        p.fresh();
        for (int what = 0; what <= 11; what++) {
            p.due("count(" + what + ") of a new chest", p.x.count(what), 0);
        }
        p.due("NONE", ParishChest.NONE, -1);
        p.due("fault()", p.x.fault(), -1);
        p.due("status()", p.x.status(), 0);
        p.due("of(0, 0)", p.x.of(0, 0), -2);
        p.due("soul(0, 0)", p.x.soul(0, 0), -1);
        p.due("found(0)", p.x.found(0), -3);
        p.due("turn(0, 0, 0, 0)", p.x.turn(0, 0, 0, 0), -1);
        p.due("turn(0, 0, 0, 1)", p.x.turn(0, 0, 0, 1), 0);
        p.due("turn(0, 0, 0, 2)", p.x.turn(0, 0, 0, 2), 0);
        p.due("balance(0, 0, 0)", p.x.balance(0, 0, 0), 0);
        p.due("seat(0, 0, -1)", p.x.seat(0, 0, -1), 0);
        p.due("waits(0, -1)", p.x.waits(0, -1), 0);
        p.due("best(3, 0)", p.x.best(3, 0), 1);
        p.due("clear()", p.x.clear(), 0);
    }

    private static void feedAndEnd() {
        p.fresh();
        p.due("end(0)", p.x.end(0), 0);
        p.due("end(1)", p.x.end(1), -1);
        p.due("end(-1)", p.x.end(-1), -1);
        for (int n = 1; n <= 20; n++) {
            p.due("feed " + n, p.x.feed(0x61626364, 0, -1, 0x20202020, 1), n * 20);
        }
        p.due("feed 21", p.x.feed(0, 0, 0, 0, 0), -1);
        p.due("count(8)", p.x.count(8), 400);
        p.due("end(401)", p.x.end(401), -1);
        p.due("end(381)", p.x.end(381), 381);
        p.due("feed to 401", p.x.feed(0, 0, 0, 0, 0), -1);
        p.due("end(380)", p.x.end(380), 380);
        p.due("feed to 400", p.x.feed(0, 0, 0, 0, 0), 400);
        // The highest byte is the first: "abcd" is a name's beginning, what stands behind it is no TOKEN of a LINE.
        p.due("line", p.x.line(2, 0, 0, 0, -1), -6);
        p.due("fault()", p.x.fault(), 4);
        p.due("count(8)", p.x.count(8), 0);
        p.due("feed", p.x.feed(0x61626364, 0x20656667, 0x682e2020, 0x20202020, 0x20202020), 20);
        p.due("end(10)", p.x.end(10), 10);
        p.due("line", p.x.line(2, 0, 0, 0, -1), 0);
        p.due("name(0, 0, 0)", p.x.name(0, 0, 0), 'a');
        p.due("name(0, 0, 3)", p.x.name(0, 0, 3), 'd');
        p.due("name(0, 1, 0)", p.x.name(0, 1, 0), 'e');
        p.due("name(0, 1, 3)", p.x.name(0, 1, 3), 'h');
    }

    private static void lines() {
        p.fresh();
        p.refused("a family's NAME is missing", p.line(0, 0, 10, 5, -1, "ann smith, john smith, mary -."), -6);
        p.due("fault()", p.x.fault(), 29);
        p.taken("births", p.line(0, 0, 10, 5, -1, "ann smith, john smith, mary ? ."), 0);
        p.due("fault()", p.x.fault(), -1);
        p.taken("weddings, blanks or none", p.line(1, 0, 10, 5, -1, "  a b,c-  d -."), 1);
        p.due("the bride's given NAME", p.x.name(4, 0, -1), 1);
        p.due("the bride's family's", p.x.name(4, 1, 0), 'd');
    }

    private static void tornLines() {
        p.fresh();
        tornLine(0, "", 1);
        tornLine(0, "   ", 1);
        tornLine(0, ".", 0);
        tornLine(0, " . ", 0);
        tornLine(0, "?.", 0);
        tornLine(0, "? ?.", 0);
        tornLine(0, "?,?,?.", 0);
        tornLine(0, "?", 1);
        tornLine(0, "? ", 1);
        tornLine(0, "ann", 1);
        tornLine(0, "ann smith,", 1);
        tornLine(0, "ann smith,?", 1);
        tornLine(0, "ann smith, bob smith, eve lee", 1);
        tornLine(0, "abcdefghijkl abcdefghijkl-,ann-smith.", 0);
        tornLine(1, "a b,c d.", 0);
        tornLine(1, "a b.", 0);
        p.fresh();
        name("a row that ends with the TAPE is TORN", "ann smi", 1, 3, "ann smith.", 0);
        name("a blank behind it: it is whole", "ann smi ", 1, 3, "ann smith.", 4);
        name("the given one alone", "an", 0, 2, "ann smith.", 0);
        name("with a sign", "an- smith.", 0, 2, "ann smith.", 0);
        name("with a sign, the TAPE's end behind it", "ann smi-", 1, 3, "ann smith.", 0);
        name("whole ones that differ", "an smith.", 0, 2, "ann smith.", 3);
    }

    private static void tornLine(int book, String text, int torn) {
        int number = p.x.count(0);
        p.taken("line of \"" + text + "\"", p.line(book, 5, -1, text), number);
        p.due("of(TORN) of \"" + text + "\"", p.x.of(number, 4), torn);
        p.due("fault() of \"" + text + "\"", p.x.fault(), -1);
        p.due("count(8) behind \"" + text + "\"", p.x.count(8), 0);
    }

    private static void name(String what, String text, int which, int length, String other, int reason) {
        p.fresh();
        p.line(0, 5, -1, text);
        p.line(3, 5, 0, other);
        p.due(what + ": name", p.x.name(0, which, -1), length);
        p.due(what + ": reason", p.x.reason(0, 3), reason);
    }

    private static void badLines() {
        p.fresh();
        badLine(0, "ann smith john.", 10);
        badLine(0, "ann.", 3);
        badLine(0, "ann,", 3);
        badLine(0, "ann smith, ?, ?, ?.", 15);
        badLine(2, "ann smith,", 9);
        badLine(0, "3.", 0);
        badLine(0, "ann 3.", 4);
        badLine(0, "? 3.", 2);
        badLine(0, "? ? ?.", 4);
        badLine(0, "?-.", 1);
        badLine(0, "ann-- smith.", 4);
        badLine(0, "ann smith. ", -1);
        badLine(0, "ann smith..", 10);
        badLine(0, "ann smith . x", 12);
        badLine(0, ",.", 0);
        badLine(0, "ann smith,,.", 10);
        badLine(0, "ann smith,.", 10);
        badLine(0, "abcdefghijklm", 0);
        badLine(0, "ann abcdefghijklm.", 4);
        badLine(0, "Ann smith.", 0);
        badLine(0, "ann\tsmith.", 3);
        badLine(0, "ann smith" + (char) 233, 9);
    }

    private static void badLine(int book, String text, int fault) {
        if (fault == -1) {
            tornLine(book, text, 0);
            return;
        }
        int before = p.x.count(0);
        p.refused("line of \"" + text + "\"", p.line(book, 5, -1, text), -6);
        p.due("fault() of \"" + text + "\"", p.x.fault(), fault);
        p.due("count(0) behind \"" + text + "\"", p.x.count(0), before);
        p.due("count(8) behind \"" + text + "\"", p.x.count(8), 0);
    }

    /** A LINE that is REFUSED ahead of reading it: the TAPE is empty, fault() stays. */
    private static void unreadLine(String what, int why, int book, int hand, int day, int known, int number) {
        p.refused(what, p.line(book, hand, day, known, number, "3 is no LINE"), why);
        p.due("the TAPE is empty behind " + what, p.x.count(8), 0);
        p.due("nothing was read of " + what, p.x.fault(), 4);
    }

    private static void lineBounds() {
        p.fresh();
        p.refused("a LINE with a FAULT", p.line(2, 0, 0, 0, -1, "ann 3."), -6);
        unreadLine("BOOK -1", -1, -1, 0, 0, 0, -1);
        unreadLine("BOOK 6", -1, 6, 0, 0, 0, -1);
        unreadLine("HAND -1", -1, 0, -1, 0, 0, -1);
        unreadLine("HAND 16", -1, 0, 16, 0, 0, -1);
        unreadLine("DAY -1", -1, 0, 0, -1, 0, -1);
        unreadLine("DAY 146400", -1, 0, 0, 146400, 0, -1);
        unreadLine("KNOWN -1", -1, 0, 0, 0, -1, -1);
        unreadLine("KNOWN 146400", -1, 0, 0, 0, 146400, -1);
        int[][] bad = {{0, 0}, {0, -2}, {1, 0}, {1, 5}, {2, -2}, {2, 121}, {3, -1}, {3, 100001}, {4, -1}, {4, 100001},
            {5, 0}, {5, 12}, {5, -1}};
        for (int[] one : bad) {
            unreadLine("NUMBER " + one[1] + " of BOOK " + one[0], -1, one[0], 0, 0, 0, one[1]);
        }
        int[][] good = {{0, -1}, {1, -1}, {2, -1}, {2, 0}, {2, 120}, {3, 0}, {3, 100000}, {4, 0}, {4, 100000}, {5, 1},
            {5, 11}};
        for (int n = 0; n < good.length; n++) {
            p.taken("NUMBER " + good[n][1] + " of BOOK " + good[n][0],
                    p.line(good[n][0], 15, 146399, 146399, good[n][1], "."), n);
            p.due("of(NUMBER)", p.x.of(n, 3), good[n][1]);
        }
        p.fresh();
        for (int n = 0; n < 200; n++) {
            p.due("line " + n, p.x.line(2, 0, 0, 0, -1), n);
        }
        p.spell(0, "abc 3");
        unreadLine("-1 comes ahead of -5", -1, 6, 0, 0, 0, 0);
        unreadLine("the 201st", -5, 2, 0, 0, 0, -1);
        p.due("count(0)", p.x.count(0), 200);
        p.due("count(4)", p.x.count(4), 200);
    }

    private static void of() {
        p.fresh();
        p.line(2, 7, 1000, 2000, 40, "ann sm");
        int[] want = {2, 7, 1000, 40, 1, 1};
        for (int what = 0; what < 6; what++) {
            p.due("of(0, " + what + ")", p.x.of(0, what), want[what]);
        }
        int[] numbers = {-1, -1, -1, 0, 0, 1};
        int[] roles = {3, 2, 1, 1, 1, 1};
        for (int book = 0; book < 6; book++) {
            int line = p.line(book, 0, numbers[book], ".");
            p.due("ROLES of BOOK " + book, p.x.of(line, 5), roles[book]);
            p.due("BOOK", p.x.of(line, 0), book);
            p.due("TORN", p.x.of(line, 4), 0);
        }
        p.due("of(7, 0)", p.x.of(7, 0), -2);
        p.due("of(-1, 0)", p.x.of(-1, 0), -2);
        p.due("of(0, 6)", p.x.of(0, 6), -2);
        p.due("of(0, -1)", p.x.of(0, -1), -2);
    }

    private static void spellings() {
        p.fresh();
        p.line(2, 3, 0, 0, -1, "phylyp thatcher.");
        folded("as told", 0, 0, "phylyp");
        p.taken("spell", p.spell(3, "ph>f, y>i,p>,tch>ch,th>t"), 5);
        folded("the first PAIR of those that fit", 0, 0, "fili");
        folded("it goes on behind", 0, 1, "tacher");
        p.due("piece is as told", p.x.piece(0, 0, 0, 2), 16 * 27 + 8);
        p.taken("spell of another HAND", p.spell(4, "a>b"), 1);
        folded("other HANDS' don't matter", 0, 1, "tacher");
        p.taken("the right side is not folded again", p.spell(3, "p>h,h>p"), 2);
        folded("swapped", 0, 0, "hpylyh");
        p.taken("longer ones", p.spell(3, "y>abc"), 1);
        folded("longer", 0, 0, "phabclabcp");
        p.taken("the first that fits, even if a longer does", p.spell(3, "t>x,th>q"), 2);
        folded("first", 0, 1, "xhaxcher");
        p.taken("none again", p.spell(3, "  "), 0);
        folded("none", 0, 0, "phylyp");
        folded("none", 0, 1, "thatcher");
        p.taken("all letters go", p.spell(3, "t>,h>,a>,c>,e>,r>"), 6);
        p.due("a NAME that folds away", p.x.name(0, 1, -1), 0);
        p.due("a NAME that folds away", p.x.name(0, 1, 0), -1);
        p.line(2, 0, 1, 1, -1, "abcdefghijkl x.");
        p.taken("eight", p.spell(0, "a>abc,b>abc,c>abc,d>abc,e>abc,f>abc,g>abc,h>abc"), 8);
        p.due("3 letters for one", p.x.name(3, 0, -1), 28);
        p.line(2, 0, 1, 1, -1, "abcdefghabcd x.");
        p.due("3 letters for each of 12", p.x.name(6, 0, -1), 36);
        p.due("the last of them", p.x.name(6, 0, 35), 'c');
        p.fresh();
        p.line(2, 0, 1, 1, -1, ".");
        p.line(2, 0, 1, 1, -1, ".");
        p.line(3, 1, 5, 5, 0, "hans smyth.");
        p.line(3, 2, 5, 5, 0, "hans smith.");
        p.due("spelled apart", p.x.reason(6, 9), 4);
        p.spell(1, "y>i");
        p.due("alike by SPELLINGS", p.x.reason(6, 9), 0);
        p.spell(1, "y>e");
        p.due("as they are now", p.x.reason(6, 9), 4);
        p.line(3, 15, 5, 5, 0, "hans smyth.");
        p.refused("a left side of four", p.spell(15, "hans>eve"), -6);
        p.taken("the last HAND", p.spell(15, "y>i,an>,n>mm,h>p,s>,m>"), 6);
        folded("the last HAND", 12, 0, "p");
        folded("the last HAND", 12, 1, "itp");
    }

    private static void folded(String what, int mention, int which, String want) {
        p.due(what + ": length", p.x.name(mention, which, -1), want.length());
        for (int i = 0; i < want.length(); i++) {
            p.due(what + ": letter " + i, p.x.name(mention, which, i), want.charAt(i));
        }
        p.due(what + ": behind", p.x.name(mention, which, want.length()), -1);
    }

    private static void badSpellings() {
        p.fresh();
        p.line(2, 0, 0, 0, -1, "ann lee.");
        p.spell(0, "a>b");
        badSpelling("abcd>e", 0);
        badSpelling("a>bcde", 2);
        badSpelling("a>b,", 4);
        badSpelling("a", 1);
        badSpelling("a>b c>d", 4);
        badSpelling(">b", 0);
        badSpelling(",", 0);
        badSpelling("a>,,", 3);
        badSpelling("a>>b", 2);
        badSpelling("a>1", 2);
        badSpelling("a<b", 1);
        badSpelling("a>b,a>b,a>b,a>b,a>b,a>b,a>b,a>b,c>d", 32);
        badSpelling("a>b,a>b,a>b,a>b,a>b,a>b,a>b,a>b,", 32);
        badSpelling("a>b,a>b,a>b,a>b,a>b,a>b,a>b,a>b, 9", 33);
        p.due("they stay", p.x.name(0, 0, 0), 'b');
        p.refused("spell(16)", p.spell(16, "a>c"), -1);
        p.due("the TAPE is empty behind spell(16)", p.x.count(8), 0);
        p.refused("spell(-1)", p.spell(-1, "a>c"), -1);
        p.due("the TAPE is empty behind spell(-1)", p.x.count(8), 0);
        p.due("fault() stays", p.x.fault(), 33);
        p.due("SPELLINGS stay", p.x.name(0, 0, 0), 'b');
        p.taken("spell(0)", p.spell(0, "a>c"), 1);
        p.due("fault() is none", p.x.fault(), -1);
        p.due("now", p.x.name(0, 0, 0), 'c');
    }

    private static void badSpelling(String text, int fault) {
        p.refused("spell of \"" + text + "\"", p.spell(0, text), -6);
        p.due("fault() of \"" + text + "\"", p.x.fault(), fault);
        p.due("count(8) behind \"" + text + "\"", p.x.count(8), 0);
    }

    private static void names() {
        p.fresh();
        p.line(0, 10, -1, "ann smith, ? lee-.");
        folded("the child's", 0, 0, "ann");
        folded("the child's", 0, 1, "smith");
        p.due("unknown", p.x.name(1, 0, -1), 0);
        p.due("unknown", p.x.name(1, 0, 0), -1);
        folded("the father's", 1, 1, "lee");
        p.due("not told", p.x.name(2, 0, -1), 0);
        p.due("no MENTION", p.x.name(3, 0, -1), -1);
        p.due("no MENTION", p.x.name(-1, 0, -1), -1);
        p.due("which", p.x.name(0, 2, -1), -1);
        p.due("which", p.x.name(0, -1, -1), -1);
        p.due("i", p.x.name(0, 0, -2), -1);
        p.due("i", p.x.name(0, 0, 3), -1);
        p.line(2, 10, -1, "ann lee.");
        p.due("the dead", p.x.name(3, 0, -1), 3);
        p.due("a ROLE that the BOOK has not", p.x.name(4, 0, -1), -1);
    }

    private static void pieces() {
        p.fresh();
        p.line(2, 10, -1, "abz zzzzzz-.");
        p.due("none", p.x.piece(0, 0, 0, 0), 0);
        p.due("none at the end", p.x.piece(0, 0, 3, 0), 0);
        p.due("none behind the end", p.x.piece(0, 0, 4, 0), -3);
        p.due("all", p.x.piece(0, 0, 0, 3), (1 * 27 + 2) * 27 + 26);
        p.due("two", p.x.piece(0, 0, 1, 2), 2 * 27 + 26);
        p.due("too many", p.x.piece(0, 0, 1, 3), -3);
        p.due("from -1", p.x.piece(0, 0, -1, 1), -3);
        p.due("from far away", p.x.piece(0, 0, Integer.MAX_VALUE, 6), -3);
        p.due("six", p.x.piece(0, 1, 0, 6), 387420488);
        p.due("seven", p.x.piece(0, 1, 0, 7), -1);
        p.due("-1 comes first", p.x.piece(7, 1, 0, -1), -1);
        p.due("no MENTION", p.x.piece(1, 0, 0, 1), -2);
        p.due("no NAME", p.x.piece(0, 2, 0, 1), -2);
        p.line(2, 10, -1, "?.");
        p.due("unknown", p.x.piece(3, 0, 0, 0), -2);
        p.line(0, 10, -1, "ann lee, bob lee.");
        p.due("no NAME, though one stands behind", p.x.piece(6, 2, 0, 1), -2);
        p.due("no NAME, though one stands ahead", p.x.piece(7, -1, 0, 1), -2);
        p.due("nor byte", p.x.name(6, 2, 0), -1);
        p.due("nor byte", p.x.name(7, -1, 0), -1);
        p.due("-2 ahead of -3", p.x.piece(3, 0, -1, 0), -2);
    }
}
