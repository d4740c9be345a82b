/** Terms I and II, sentence by sentence: DAYS, YEARS, what is KNOWN, TOKENS, LINES, SPELLINGS, NAMES that are ALIKE. */
public final class EdgesOfLinesTest {
    private static final Probe p = new Probe();
    private static final int Y = 366;
    private static final int LAST = 146399;

    public static void main(String[] args) {
        years();
        knownLines();
        knownOfSouls();
        knownOfTexts();
        knownOfHoldings();
        knownOfAccounts();
        letters();
        digits();
        blanks();
        rowsWithoutBlanks();
        faultOfTheEnd();
        bytesOfANumber();
        rolesOfBooks();
        lengthOfNames();
        tornByASign();
        tornByTheTape();
        unknownOnes();
        lengthOfPairs();
        foldedAtTheEnd();
        foldedFromLeftToRight();
        alikeTorn();
        alikeFolded();
        p.finish("EdgesOfLinesTest");
    }

    // ---- Terms I

    /** "DAYS 0 .. 146,399; the YEAR of a DAY is DAY / 366 (0 .. 399)." */
    private static void years() {
        p.fresh();
        int[][] days = {{0, 0}, {365, 0}, {366, 1}, {731, 1}, {732, 2}, {146033, 398}, {146034, 399}, {LAST, 399}};
        for (int[] one : days) {
            p.line(3, one[0], 1, "?.");
        }
        int[] want = {2, 2, 1, 0};
        for (int year = 0; year < 4; year++) {
            p.due("LINES of YEAR " + year, p.x.seal(year), want[year]);
        }
        p.due("LINES of YEAR 397", p.x.seal(397), 0);
        p.due("LINES of YEAR 398", p.x.seal(398), 1);
        p.due("LINES of YEAR 399", p.x.seal(399), 2);
    }

    /** "All that is told has a DAY from which it is KNOWN." Known on it, and not a DAY ahead. */
    private static void knownLines() {
        p.fresh();
        p.line(0, 0, 50 * Y, 1000, -1, "ann lee, bob lee, eve lee.");
        for (int m = 0; m < 3; m++) {
            p.due("LINE not known", p.x.soul(m, 999), -1);
            p.due("LINE known, though of a later DAY", p.x.soul(m, 1000), m);
            p.due("what is known ahead of its DAY", p.x.span(m, 1000, 2) > 0 ? 1 : 0, 1);
        }
        p.due("of() asks nothing of that", p.x.of(0, 2), 50 * Y);
        p.due("nor does name()", p.x.name(0, 0, -1), 3);
        p.line(4, 0, 50 * Y, 1000, 7, "ann lee.");
        p.due("BEYOND not known", p.x.beyond(1, 999), -1);
        p.due("BEYOND known", p.x.beyond(1, 1000), 7);
        p.due("FEE not known", p.x.fee(0, 999), -1);
        p.due("FEE known", p.x.fee(0, 1000), 0);
        p.due("MOST not known", p.x.fill(4, 0, 9, 999, 1), 0);
        p.due("MOST known", p.x.fill(4, 0, 9, 1000, 1), 1);
        p.line(5, 0, 50 * Y, 1000, 7, "ann lee.");
        p.due("ORDER not known", p.x.order(2, 999, 0), -1);
        p.due("ORDER known", p.x.order(2, 1000, 0), 0);
    }

    private static void knownOfSouls() {
        p.fresh();
        p.line(3, 0, 0, "ann lee.");
        p.line(3, 0, 0, "ann lee.");
        p.line(1, 0, 0, 0, -1, "ann lee, bob lee.");
        p.x.together(0, 3, 1000);
        p.due("TOGETHER not known", p.x.soul(3, 999), 3);
        p.due("TOGETHER known", p.x.soul(3, 1000), 0);
        p.x.together(6, 7, 2000);
        p.due("it WAITS not yet", p.x.waits(1999, -1), 0);
        p.due("it WAITS", p.x.waits(2000, 0), 1);
        p.fresh();
        p.line(3, 0, 100, 0, 5, "?.");
        p.x.torn(3, 100, 100, 1000);
        p.due("PAGES not known", p.x.fill(3, 300, 309, 999, 1), 1);
        p.due("PAGES known", p.x.fill(3, 300, 309, 1000, 1), 0);
    }

    private static void knownOfTexts() {
        p.fresh();
        p.line(3, 0, 0, "ann lee.");
        p.text(0, 0, 1000, "seat 5");
        p.due("TEXT not known", p.x.counts(7, 0, 0, 999, 0), Probe.NO_SUM);
        p.due("TEXT known", p.x.counts(7, 0, 0, 1000, 0), 5);
        p.x.fact(0, 4, 1, 0, 10, 1000);
        p.due("FACT not known", p.x.about(0, 0, 999, 9), 0);
        p.due("FACT known", p.x.about(0, 0, 1000, 9), 1);
        p.line(5, 0, 5, 0, 7, "ann lee.");
        p.x.appeal(1, 5, 1000);
        p.due("APPEAL not known", p.x.order(1, 999, 1), 0);
        p.due("APPEAL known", p.x.order(1, 1000, 1), 1);
    }

    private static void knownOfHoldings() {
        p.fresh();
        p.line(3, 0, 0, "ann lee.");
        p.x.holding();
        p.x.value(0, 100, 0, 1000);
        p.x.hold(0, 0, 0, 2000);
        p.x.split(0, 1, 4, 0, 3000);
        p.due("VALUE not known", p.x.house(0, 0, 999, 0), 0);
        p.due("VALUE known", p.x.house(0, 0, 1000, 0), 100);
        p.due("HELD not known", p.x.house(0, 0, 1999, 1), -1);
        p.due("HELD known", p.x.house(0, 0, 2000, 1), 0);
        p.due("SPLIT not known", p.x.house(0, 0, 2999, 0), 100);
        p.due("SPLIT not known", p.x.house(1, 0, 2999, 0), 0);
        p.due("SPLIT known", p.x.house(0, 0, 3000, 0), 75);
        p.due("SPLIT known", p.x.house(1, 0, 3000, 0), 25);
        p.x.levy(0, 0, 40, 4000);
        p.due("LEVY not known", p.x.owe(0, -1, 3999), -1);
        p.due("LEVY not known", p.x.arrear(0, 0, 0, 3999), Probe.NOTHING);
        p.due("LEVY known", p.x.owe(0, -1, 4000), 40);
        p.x.pay(0, 0, 7, 0, 5000);
        p.due("PAID not known", p.x.arrear(0, 0, 0, 4999), 30);
        p.due("PAID known", p.x.arrear(0, 0, 0, 5000), 23);
    }

    private static void knownOfAccounts() {
        p.fresh();
        p.x.entry(0, 0, 5, 1000);
        p.due("ENTRY not known", p.x.balance(0, 0, 999), 0);
        p.due("ENTRY known", p.x.balance(0, 0, 1000), 5);
        p.x.close(0, 0, 5, 2000);
        p.due("not CLOSED", p.x.balance(0, 1, 1999), 0);
        p.due("CLOSED", p.x.balance(0, 1, 2000), 5);
        p.x.holding();
        p.x.acres(0, 0, 10);
        p.x.price(0, 0, 10, 1000);
        p.due("PRICE not known", p.x.coin(0, 1, 999), 0);
        p.due("PRICE known", p.x.coin(0, 1, 1000), 10);
    }

    /** "longest rows of letters a .. z": what stands ahead of a and behind z is none. */
    private static void letters() {
        p.fresh();
        p.taken("a and z", p.line(2, 0, 5, "az za."), 0);
        char[] others = {(char) ('a' - 1), (char) ('z' + 1), 'A', 'Z', (char) 0, (char) 127, (char) 128, (char) 225, (char) 255};
        for (char sign : others) {
            p.refused("byte " + (int) sign, p.line(2, 0, 5, "a" + sign + " za."), -6);
            p.due("its place", p.x.fault(), 1);
            p.refused("byte " + (int) sign, p.law("seat" + sign + "5"), -6);
            p.due("its place", p.x.fault(), 4);
        }
    }

    private static void digits() {
        p.fresh();
        p.goodText("seat 0+9+09+90");
        for (char sign : new char[] {(char) ('0' - 1), (char) ('9' + 1), (char) 178}) {
            p.refused("byte " + (int) sign, p.law("seat 1" + sign), -6);
            p.due("its place, or the end's behind a \"/\"", p.x.fault(), sign == '/' ? 7 : 6);
        }
        p.badText("seat 100001", 5);
        p.goodText("seat 100000");
        p.goodText("seat 000000000000000000000100000");
        p.badText("seat 1000000000000000000000000", 5);
        p.badText("seat 4294967297", 5);
        p.badText("seat 18446744073709551617", 5);
    }

    /** "any blanks (32) between": ahead of all and behind all, too; other white bytes are TOKENS. */
    private static void blanks() {
        p.fresh();
        p.taken("blanks all around", p.line(2, 0, 5, "   ann    lee   .   "), 0);
        p.due("the NAME", p.x.name(0, 1, -1), 3);
        p.goodText("   seat   5   ");
        p.taken("blanks in SPELLINGS", p.spell(0, "  a  >  b  ,  c  >  "), 2);
        for (char sign : new char[] {31, 33, 9, 10, 13, 160}) {
            p.refused("byte " + (int) sign, p.line(2, 0, 5, "ann" + sign + "lee."), -6);
            p.due("its place", p.x.fault(), 3);
        }
    }

    /** Rows of letters and of digits end where the other begins. */
    private static void rowsWithoutBlanks() {
        p.fresh();
        p.goodText("seat5");
        p.goodText("strike0clause0;turn warden7;seat 5if 1<2unless 3>4");
        p.goodText("badge if(poor)and not(dead)");
        p.badText("seatage", 0);
        p.badText("badgeif poor", 0);
        p.badText("badge if notpoor", 9);
        p.badText("seat 5 5", 7);
        p.refused("letters, digits", p.line(2, 0, 5, "ann5 lee."), -6);
        p.due("the digit", p.x.fault(), 3);
    }

    /** "FAULT: the first TOKEN that can't go on there (the end's: the TEXT's length)." */
    private static void faultOfTheEnd() {
        p.fresh();
        p.badText("", 0);
        p.badText(" ", 1);
        p.badText("seat", 4);
        p.badText("seat   ", 7);
        p.badText("badge if poor and", 17);
        p.refused("SPELLINGS", p.spell(0, "ab"), -6);
        p.due("the end's", p.x.fault(), 2);
        p.refused("SPELLINGS", p.spell(0, "ab  "), -6);
        p.due("the end's", p.x.fault(), 4);
        p.taken("the end is no FAULT of a LINE", p.line(2, 0, 5, "ab"), 0);
        p.due("none", p.x.fault(), -1);
    }

    /** "four of each number, the highest first" */
    private static void bytesOfANumber() {
        p.fresh();
        p.due("feed", p.x.feed(0x61626320, 0x64656620, 0x2e202020, 0x20202020, 0x20202020), 20);
        p.taken("abc def.", p.x.line(2, 0, 0, 0, -1), 0);
        p.due("abc", p.x.piece(0, 0, 0, 3), (27 + 2) * 27 + 3);
        p.due("def", p.x.piece(0, 1, 0, 3), (4 * 27 + 5) * 27 + 6);
        p.due("feed", p.x.feed(-1, 0x20202020, 0x20202020, 0x20202020, 0x20202020), 20);
        p.refused("bytes of 255", p.x.line(2, 0, 0, 0, -1), -6);
        p.due("the first", p.x.fault(), 0);
        p.due("feed", p.x.feed(0x20202020, 0x20202020, 0x20202020, 0x20202020, 0x20202e61), 20);
        p.refused("the last byte", p.x.line(2, 0, 0, 0, -1), -6);
        p.due("the last", p.x.fault(), 19);
    }

    // ---- Terms II

    /** "(no more ROLES than the BOOK has)" */
    private static void rolesOfBooks() {
        int[] roles = {3, 2, 1, 1, 1, 1};
        int[] numbers = {-1, -1, -1, 0, 0, 1};
        for (int book = 0; book < 6; book++) {
            p.fresh();
            StringBuilder row = new StringBuilder();
            for (int n = 0; n < roles[book]; n++) {
                p.taken("fewer of BOOK " + book, p.line(book, 0, numbers[book], row.length() == 0 ? "." : row + "."), n);
                row.append(row.length() == 0 ? "" : ",").append("a b");
            }
            int line = roles[book];
            p.taken("all of BOOK " + book, p.line(book, 0, numbers[book], row + "."), line);
            p.refused("one more of BOOK " + book, p.line(book, 0, numbers[book], row + ",a b."), -6);
            p.due("the FAULT is the \",\"", p.x.fault(), row.length());
            p.refused("one more \"?\" of BOOK " + book, p.line(book, 0, numbers[book], row + ",?"), -6);
            p.due("ROLES of BOOK " + book, p.x.of(line, 5), roles[book]);
            for (int role = 0; role < 3; role++) {
                boolean is = role < roles[book];
                p.due("MENTION of ROLE " + role, p.x.soul(line * 3 + role, LAST), is ? line * 3 + role : -1);
                p.due("its NAME", p.x.name(line * 3 + role, 1, -1), is ? 1 : -1);
            }
        }
    }

    /** "LETTERS [\"-\"] (1 .. 12 letters; a longer row is the FAULT)" */
    private static void lengthOfNames() {
        p.fresh();
        String twelve = "abcdefghijkl";
        p.taken("1 and 12", p.line(2, 0, 5, "a " + twelve + "."), 0);
        p.due("1", p.x.name(0, 0, -1), 1);
        p.due("12", p.x.name(0, 1, -1), 12);
        p.taken("12 and 12, TORN", p.line(2, 0, 5, twelve + "-" + twelve), 1);
        p.due("12", p.x.name(3, 0, -1), 12);
        p.due("the twelfth", p.x.name(3, 1, 11), 'l');
        String[] longer = {twelve + "m a.", "a " + twelve + "m.", twelve + "m", "a " + twelve + "m", twelve + "m-", "a b," + twelve + "m"};
        int[] places = {0, 2, 0, 2, 0, 4};
        for (int n = 0; n < longer.length; n++) {
            p.refused("13 of \"" + longer[n] + "\"", p.line(1, 0, -1, longer[n]), -6);
            p.due("FAULT of \"" + longer[n] + "\"", p.x.fault(), places[n]);
        }
        p.taken("six of 12", p.line(0, 0, -1, twelve + " " + twelve + "," + twelve + " " + twelve + "," + twelve + " " + twelve + "."), 2);
        for (int m = 6; m < 9; m++) {
            for (int which = 0; which < 2; which++) {
                p.due("NAME " + which + " of " + m, p.x.name(m, which, -1), 12);
                p.due("its last letters", p.x.piece(m, which, 10, 2), 11 * 27 + 12);
            }
        }
        p.taken("six of 1", p.line(0, 0, -1, "a b,c d,e f."), 3);
        for (int m = 9; m < 12; m++) {
            p.due("given of " + m, p.x.piece(m, 0, 0, 1), (m - 9) * 2 + 1);
            p.due("family's of " + m, p.x.piece(m, 1, 0, 1), (m - 9) * 2 + 2);
            p.due("no more", p.x.piece(m, 1, 0, 2), -3);
        }
        StringBuilder row = new StringBuilder();
        while (row.length() < 400) {
            row.append('a');
        }
        p.refused("400 letters", p.line(2, 0, 5, row.toString()), -6);
        p.due("FAULT of 400 letters", p.x.fault(), 0);
    }

    /** "with \"-\" it is TORN: only its beginning is known" */
    private static void tornByASign() {
        p.fresh();
        p.line(3, 0, 5, "ann- lee-.");
        p.line(3, 0, 5, "ann lee.");
        p.line(3, 0, 5, "anna leeds.");
        p.line(3, 0, 5, "an lee.");
        p.line(3, 0, 5, "anna le.");
        p.due("the LINE is not TORN", p.x.of(0, 4), 0);
        p.due("as long", p.x.reason(0, 3), 0);
        p.due("longer", p.x.reason(0, 6), 0);
        p.due("shorter given", p.x.reason(0, 9), 3);
        p.due("shorter family's", p.x.reason(0, 12), 4);
        p.refused("two signs", p.line(3, 0, 5, "ann-- lee."), -6);
        p.due("the second", p.x.fault(), 4);
        p.refused("a sign alone", p.line(3, 0, 5, "- lee."), -6);
        p.due("it", p.x.fault(), 0);
        p.refused("an unknown one has none", p.line(3, 0, 5, "ann ?-."), -6);
        p.due("it", p.x.fault(), 5);
    }

    /** "If the TAPE ends ahead of the \".\" .. the LINE is TORN from there: a row of letters that ends with the TAPE is TORN" */
    private static void tornByTheTape() {
        String whole = "ann lee, bob fox.";
        int[] givenOf = {0, 1, 2, 3, 3, 3, 3, 3, 3, 3, 3, 3, 3, 3, 3, 3, 3, 3};
        int[] familyOf = {0, 0, 0, 0, 0, 1, 2, 3, 3, 3, 3, 3, 3, 3, 3, 3, 3, 3};
        for (int end = 0; end <= whole.length(); end++) {
            p.fresh();
            p.taken("cut at " + end, p.line(1, 0, -1, whole.substring(0, end)), 0);
            p.due("TORN at " + end, p.x.of(0, 4), end < whole.length() ? 1 : 0);
            p.due("no FAULT at " + end, p.x.fault(), -1);
            p.due("given at " + end, p.x.name(0, 0, -1), givenOf[end]);
            p.due("family's at " + end, p.x.name(0, 1, -1), familyOf[end]);
            p.due("the second's at " + end, p.x.name(1, 0, -1) > 0 ? 1 : 0, end >= 10 ? 1 : 0);
            // Longer NAMES that begin so: ALIKE only while a row ends with the TAPE.
            p.line(3, 0, 5, "anna leeds.");
            int reason = p.x.reason(0, 3);
            p.due("ALIKE at " + end, reason, end <= 3 ? 0 : 3);
            p.line(3, 0, 5, "ann leeds.");
            p.due("family's ALIKE at " + end, p.x.reason(0, 6), end <= 7 ? 0 : 4);
        }
        p.fresh();
        p.refused("a FAULT ahead of that", p.line(1, 0, -1, "ann lee; bob"), -6);
        p.due("it", p.x.fault(), 7);
    }

    /** "A ROLE, a NAME that is \"?\", and ROLES that are not told, are unknown." */
    private static void unknownOnes() {
        p.fresh();
        p.line(0, 0, -1, "? lee, ann ?.");
        int[][] lengths = {{0, 3}, {3, 0}, {0, 0}};
        for (int m = 0; m < 3; m++) {
            for (int which = 0; which < 2; which++) {
                p.due("NAME " + which + " of " + m, p.x.name(m, which, -1), lengths[m][which]);
                p.due("its first byte", p.x.name(m, which, 0) > 0 ? 1 : 0, lengths[m][which] > 0 ? 1 : 0);
                p.due("no letters of it", p.x.piece(m, which, 0, 0), lengths[m][which] > 0 ? 0 : -2);
            }
            p.due("it is a MENTION", p.x.soul(m, 0), m);
        }
        String[] alike = {"?,?,?.", "? ?,? ?,? ?.", ".", "", "?", "? ", "?,", "?,?"};
        for (String text : alike) {
            p.fresh();
            p.taken("\"" + text + "\"", p.line(0, 0, -1, text), 0);
            for (int m = 0; m < 3; m++) {
                p.due("given of " + m, p.x.name(m, 0, -1), 0);
                p.due("family's of " + m, p.x.name(m, 1, -1), 0);
            }
        }
    }

    /** "PAIR: LETTERS \">\" [LETTERS] (1 .. 3 letters each; a longer row is the FAULT)" */
    private static void lengthOfPairs() {
        p.fresh();
        p.line(2, 0, -1, "abc def.");
        p.taken("1 and none", p.spell(0, "a>"), 1);
        p.due("one goes", p.x.name(0, 0, -1), 2);
        p.taken("3 and 3", p.spell(0, "abc>xyz"), 1);
        p.due("x", p.x.name(0, 0, 0), 'x');
        p.due("z", p.x.name(0, 0, 2), 'z');
        p.refused("4 on the left", p.spell(0, "a>b,abcd>x"), -6);
        p.due("FAULT", p.x.fault(), 4);
        p.refused("4 on the right", p.spell(0, "a>b,a>wxyz"), -6);
        p.due("FAULT", p.x.fault(), 6);
        p.refused("none on the left", p.spell(0, "a>b,>x"), -6);
        p.due("FAULT", p.x.fault(), 4);
        p.refused("none at all", p.spell(0, "a>b,,"), -6);
        p.due("FAULT", p.x.fault(), 4);
        p.due("they stay", p.x.name(0, 0, 0), 'x');
        p.taken("blanks alone: none", p.spell(0, "     "), 0);
        p.due("none", p.x.name(0, 0, 0), 'a');
    }

    /** "where the left LETTERS of a PAIR stand": not where a NAME ends ahead of their end. */
    private static void foldedAtTheEnd() {
        p.fresh();
        p.line(2, 0, -1, "abab ab.");
        p.taken("spell", p.spell(0, "aba>x,bc>y,b>z"), 3);
        p.due("x and z", p.x.name(0, 0, -1), 2);
        p.due("x", p.x.name(0, 0, 0), 'x');
        p.due("z", p.x.name(0, 0, 1), 'z');
        p.due("a stays", p.x.name(0, 1, 0), 'a');
        p.due("z", p.x.name(0, 1, 1), 'z');
        // The next NAME's letters are none of this one's.
        p.taken("spell", p.spell(0, "bab>x"), 1);
        p.due("a and x", p.x.name(0, 0, 1), 'x');
        p.due("ab stays", p.x.name(0, 1, 1), 'b');
    }

    /** "(the first PAIR of those that fit), and it goes on behind them; else the letter stays." */
    private static void foldedFromLeftToRight() {
        p.fresh();
        p.line(2, 0, -1, "aaaa aaab.");
        p.taken("spell", p.spell(0, "aa>a"), 1);
        p.due("what came is not looked at again", p.x.name(0, 0, -1), 2);
        p.due("aa, a, b", p.x.name(0, 1, -1), 3);
        p.taken("spell", p.spell(0, "a>x,aa>y"), 2);
        p.due("the first of those that fit", p.x.name(0, 0, -1), 4);
        p.taken("spell", p.spell(0, "aa>y,a>x"), 2);
        p.due("the first of those that fit", p.x.name(0, 0, -1), 2);
        p.due("y", p.x.name(0, 1, 0), 'y');
        p.due("x", p.x.name(0, 1, 1), 'x');
        p.due("b stays", p.x.name(0, 1, 2), 'b');
        p.taken("spell", p.spell(0, "a>aaa"), 1);
        p.due("twelve of four", p.x.name(0, 0, -1), 12);
    }

    /** "if one is, what is FOLDED of it begins the other one's; if both are, one begins the other." */
    private static void alikeTorn() {
        String[] names = {"ab", "abc", "abd", "ab-", "abc-", "a-", "b-"};
        boolean[][] alike = {
            {true, false, false, true, false, true, false},
            {false, true, false, true, true, true, false},
            {false, false, true, true, false, true, false},
            {true, true, true, true, true, true, false},
            {false, true, false, true, true, true, false},
            {true, true, true, true, true, true, false},
            {false, false, false, false, false, false, true}};
        p.fresh();
        for (String name : names) {
            p.line(3, 0, 5, name + " ?.");
        }
        for (int a = 0; a < names.length; a++) {
            for (int b = 0; b < names.length; b++) {
                if (a != b) {
                    p.due(names[a] + " and " + names[b], p.x.reason(a * 3, b * 3), alike[a][b] ? 0 : 3);
                }
            }
        }
    }

    /** A NAME that folds to nothing is known: TORN it begins all, whole it is ALIKE its own kind alone. */
    private static void alikeFolded() {
        p.fresh();
        p.spell(1, "x>");
        p.line(3, 1, 0, 0, 5, "x x.");
        p.line(3, 1, 0, 0, 5, "xx- xx.");
        p.line(3, 1, 0, 0, 5, "ann lee.");
        p.line(3, 1, 0, 0, 5, "xxx x-.");
        p.line(3, 1, 0, 0, 5, "? ?.");
        p.due("nothing and nothing", p.x.reason(0, 9), 0);
        p.due("nothing and ann", p.x.reason(0, 6), 3);
        p.due("ann and nothing", p.x.reason(6, 0), 3);
        p.due("nothing, TORN, and ann; nothing and lee", p.x.reason(3, 6), 4);
        p.due("lee and nothing", p.x.reason(6, 3), 4);
        p.due("nothing, TORN, and nothing", p.x.reason(3, 0), 0);
        p.due("nothing and lee, with ann", p.x.reason(9, 6), 3);
        p.due("nothing and what is unknown", p.x.reason(0, 12), 0);
        p.due("both are known: GIVEN and FAMILY", p.x.worth(0, 9), 20);
        p.due("one is unknown: nothing", p.x.worth(0, 12), 0);
    }
}
