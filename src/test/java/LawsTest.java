/** Promises 27 to 31: TEXTS, FORCE, CLAUSES that HOLD and COUNT, and what is asked of a SOUL. */
public final class LawsTest {
    private static final Probe p = new Probe();
    private static final int Y = 366;

    public static void main(String[] args) {
        goodTexts();
        badTexts();
        partsAndBrackets();
        textBounds();
        force();
        strikes();
        sums();
        tests();
        brokenTests();
        holdsWrong();
        counts();
        kinds();
        aboutSouls();
        p.finish("LawsTest");
    }

    private static void goodTexts() {
        p.fresh();
        p.goodText("belong birth;belong hire;belong rent;belong office;belong wed;belong parents");
        p.goodText("exempt church;exempt way;exempt poor");
        p.goodText("rate church 1;rate way 2;rate poor 3");
        p.goodText("relief 100000 ; badge ; seat 0");
        p.goodText("turn constable 0;turn surveyor 399;turn overseer 7;turn warden 0007");
        p.goodText("fee bell 1;fee grave 2;fee wedding 3");
        p.goodText("strike 29 clause 11;strike 0 clause 0");
        p.goodText("badge if married or dead and poor or not holds unless certified");
        p.goodText("badge if not not(not poor)");
        p.goodText("seat age+children-value*years/relieved if age<1 unless [1]=[1]");
        p.goodText("badge;badge;badge;badge;badge;badge;badge;badge;badge;badge;badge;badge");
        p.goodText("exempt poor if poor and [age + 1] * 2 > 3 or(age=1)");
    }

    private static void badTexts() {
        p.fresh();
        p.badText("", 0);
        p.badText("  ", 2);
        p.badText(";", 0);
        p.badText("badge;", 6);
        p.badText("badge; ;badge", 7);
        p.badText("badges", 0);
        p.badText("if poor", 0);
        p.badText("belong", 6);
        p.badText("belong born", 7);
        p.badText("belong poor", 7);
        p.badText("exempt", 6);
        p.badText("exempt birth", 7);
        p.badText("exempt poor 5", 12);
        p.badText("rate 5", 5);
        p.badText("rate poor", 9);
        p.badText("rate poor if", 10);
        p.badText("relief", 6);
        p.badText("relief poor", 7);
        p.badText("relief 100001", 7);
        p.badText("relief 99999999999999999999", 7);
        p.badText("badge 1", 6);
        p.badText("turn", 4);
        p.badText("turn 5", 5);
        p.badText("turn warden", 11);
        p.badText("turn warden 400", 12);
        p.badText("turn warden age", 12);
        p.badText("turn warden 5 6", 14);
        p.badText("fee", 3);
        p.badText("fee poor 1", 4);
        p.badText("fee bell", 8);
        p.fresh();
        p.badText("seat", 4);
        p.badText("seat -1", 5);
        p.badText("seat 1 +", 8);
        p.badText("seat 1 2", 7);
        p.badText("seat 1 * * 2", 9);
        p.badText("seat [1", 7);
        p.badText("seat [1)", 7);
        p.badText("seat (1)", 5);
        p.badText("seat []", 6);
        p.badText("seat married", 5);
        p.badText("strike", 6);
        p.badText("strike 30 clause 0", 7);
        p.badText("strike 1", 8);
        p.badText("strike 1 2", 9);
        p.badText("strike 1 clause", 15);
        p.badText("strike 1 clause 12", 16);
        p.badText("strike 1 clause 1 if poor", 18);
        p.fresh();
        p.badText("badge if", 8);
        p.badText("badge if if", 9);
        p.badText("badge if value", 14);
        p.badText("badge if 1", 10);
        p.badText("badge if 1 < 2 < 3", 15);
        p.badText("badge if poor = 1", 14);
        p.badText("badge if poor or", 16);
        p.badText("badge if poor and", 17);
        p.badText("badge if or poor", 9);
        p.badText("badge if not", 12);
        p.badText("badge if (poor", 14);
        p.badText("badge if (poor]", 14);
        p.badText("badge if (1) < 2", 11);
        p.badText("badge if [poor]", 10);
        p.badText("badge if poor if poor", 14);
        p.badText("badge unless poor if poor", 18);
        p.badText("badge unless poor unless poor", 18);
        p.badText("badge if poor poor", 14);
        p.badText("badge if 1 < 2 poor", 15);
        p.badText("badge IF poor", 6);
        p.badText("badge if age ! 1", 13);
        p.badText("badge;badge;badge;badge;badge;badge;badge;badge;badge;badge;badge;badge;badge", 72);
        p.badText("badge;badge;badge;badge;badge;badge;badge;badge;badge;badge;badge;badge;", 72);
        p.badText("badge" + (char) 200, 5);
    }

    private static void partsAndBrackets() {
        p.fresh();
        StringBuilder sixty = new StringBuilder("seat 1");
        for (int n = 1; n < 60; n++) {
            sixty.append("+1");
        }
        p.goodText(sixty.toString());
        p.badText(sixty + "+1", sixty.length() + 1);
        p.badText(sixty + "+age", sixty.length() + 1);
        p.badText(sixty + "+x", sixty.length() + 1);
        p.badText(sixty + " if poor", sixty.length() + 4);
        p.goodText(sixty + ";turn warden 5;strike 1 clause 1;badge;belong birth");
        p.badText(sixty + ";badge if not poor", sixty.length() + 14);
        StringBuilder plain = new StringBuilder("badge if poor");
        for (int n = 1; n < 30; n++) {
            plain.append(" or poor");
        }
        p.goodText(plain + ";seat 1+age");
        StringBuilder both = new StringBuilder("seat 1");
        for (int n = 1; n < 30; n++) {
            both.append("+1");
        }
        both.append(" if dead");
        for (int n = 1; n < 30; n++) {
            both.append(" or dead");
        }
        p.goodText(both.toString());
        p.badText(both + " or dead", both.length() + 4);
        p.goodText("seat [[[[[[[[1]]]]]]]]");
        p.badText("seat [[[[[[[[[1]]]]]]]]]", 13);
        p.goodText("badge if ((((((((poor))))))))");
        p.badText("badge if (((((((((poor)))))))))", 17);
        p.goodText("badge if ((((([[[1]]]<2)))))");
        p.badText("badge if ((((([[[[1]]]]<2)))))", 17);
        p.goodText("badge if (((((((([1]<2 or poor))))))))".replace("[1]", "1"));
        p.badText("badge if (((((((([1]<2))))))))", 17);
        p.goodText("seat [[[[[[[[1]]]]]]]] if ((((((((poor))))))))");
        StringBuilder nots = new StringBuilder("badge if");
        for (int n = 0; n < 90; n++) {
            nots.append(" not");
        }
        p.goodText(nots + " poor");
    }

    /** A TEXT that is REFUSED ahead of reading it: the TAPE is empty, fault() stays. */
    private static void unreadText(String what, int why, int sort, int from, int known) {
        p.refused(what, p.text(sort, from, known, "bad"), why);
        p.due("the TAPE is empty behind " + what, p.x.count(8), 0);
        p.due("nothing was read of " + what, p.x.fault(), 6);
    }

    private static void textBounds() {
        p.fresh();
        p.badText("badge 3", 6);
        unreadText("sort -1", -1, -1, 0, 0);
        unreadText("sort 2", -1, 2, 0, 0);
        unreadText("from -1", -1, 0, -1, 0);
        unreadText("from 146400", -1, 0, 146400, 0);
        unreadText("known -1", -1, 0, 0, -1);
        unreadText("known 146400", -1, 0, 0, 146400);
        p.taken("text", p.text(1, 146399, 146399, "badge"), 0);
        p.due("the TAPE is empty", p.x.count(8), 0);
        for (int n = 1; n < 30; n++) {
            p.due("text " + n, p.law("badge"), n);
        }
        p.spell(0, "abc > 3");
        unreadText("-1 first", -1, 2, 0, 0);
        unreadText("the 31st", -5, 0, 0, 0);
        p.due("count(1)", p.x.count(1), 30);
        p.due("count(4)", p.x.count(4), 30);
    }

    private static void force() {
        p.fresh();
        p.text(1, 100, 50, "badge;badge");
        p.due("in force", p.x.force(0, 1, 100, 50), 1);
        p.due("not yet", p.x.force(0, 1, 99, 50), 0);
        p.due("not known", p.x.force(0, 1, 100, 49), 0);
        p.due("later", p.x.force(0, 0, 146399, 146399), 1);
        p.due("no TEXT", p.x.force(1, 0, 100, 100), -1);
        p.due("no TEXT", p.x.force(-1, 0, 100, 100), -1);
        p.due("no CLAUSE", p.x.force(0, 2, 100, 100), -1);
        p.due("no CLAUSE", p.x.force(0, -1, 100, 100), -1);
        p.due("no DAY", p.x.force(0, 0, -1, 100), -1);
        p.due("no DAY", p.x.force(0, 0, 100, 146400), -1);
    }

    private static void strikes() {
        p.fresh();
        p.text(0, 0, 0, "badge;badge;strike 0 clause 0");
        p.due("a TEXT's own CLAUSES aren't struck", p.x.force(0, 0, 0, 0), 1);
        p.text(1, 100, 0, "strike 0 clause 1;strike 2 clause 0");
        p.due("struck", p.x.force(0, 1, 100, 0), 0);
        p.due("not yet", p.x.force(0, 1, 99, 0), 1);
        p.text(0, 200, 0, "strike 1 clause 0;badge");
        p.due("the strike is struck", p.x.force(1, 0, 200, 0), 0);
        p.due("so it is in force again", p.x.force(0, 1, 200, 0), 1);
        p.due("later ones aren't struck by earlier ones", p.x.force(2, 0, 200, 0), 1);
        p.text(0, 300, 10, "strike 2 clause 0;strike 2 clause 9;strike 29 clause 0");
        p.due("thrice", p.x.force(0, 1, 300, 10), 0);
        p.due("thrice", p.x.force(1, 0, 300, 10), 1);
        p.due("thrice", p.x.force(2, 0, 300, 10), 0);
        p.due("as known", p.x.force(0, 1, 300, 9), 1);
        p.due("the others stay", p.x.force(2, 1, 300, 10), 1);
        p.due("the others stay", p.x.force(0, 0, 300, 10), 1);
    }

    /** A seat's SUM for a SOUL of YEAR 100: age 50, children 2, value 30, years 50, relieved 7. */
    private static void town() {
        p.fresh();
        p.line(0, 50 * Y, -1, "bob lee.");
        p.line(0, 80 * Y, -1, "ann lee, bob lee.");
        p.line(0, 82 * Y, -1, "tom lee, bob lee.");
        p.line(4, 100 * Y, 7, "bob lee.");
        p.x.together(0, 4, 0);
        p.x.together(0, 7, 0);
        p.x.together(0, 9, 0);
        p.x.holding();
        p.x.value(0, 30, 0, 0);
        p.x.hold(0, 0, 0, 0);
    }

    private static void sum(String sum, long want) {
        int text = p.law("seat " + sum);
        p.due("seat " + sum, p.x.counts(7, 0, 100 * Y, 146399, 0), want);
        p.due("holds: " + sum, p.x.holds(text, 0, 0, 100 * Y, 146399), want == Probe.NO_SUM ? 0 : 1);
    }

    private static void test(String test, int want) {
        if (p.x.count(1) > 27) {
            town();
        }
        int text = p.law("badge if " + test + ";badge unless " + test);
        p.due("if " + test, p.x.holds(text, 0, 0, 100 * Y, 146399), want == 1 ? 1 : 0);
        p.due("unless " + test, p.x.holds(text, 1, 0, 100 * Y, 146399), want == 0 ? 1 : 0);
    }

    private static void sums() {
        town();
        sum("age", 50);
        sum("children", 2);
        sum("value", 30);
        sum("years", 50);
        sum("relieved", 7);
        sum("1 + 2 * 3", 7);
        sum("[1 + 2] * 3", 9);
        sum("10 - 3 - 2", 5);
        sum("10 - [3 - 2]", 9);
        sum("100 / 7 / 2", 7);
        sum("100 / [7 / 2]", 33);
        sum("7 / 2 * 2", 6);
        sum("7 * 2 / 2", 7);
        sum("[0 - 7] / 2", -3);
        sum("7 / [0 - 2]", -3);
        sum("2 - 3 * 4 + 5 / 2", -8);
        town();
        sum("1 / 0", Probe.NO_SUM);
        sum("0 / [age - 50]", Probe.NO_SUM);
        town();
        sum("100000 * 100000 * 100", 1000000000000L);
        sum("0 - 100000 * 100000 * 100", -1000000000000L);
        town();
        sum("100000 * 100000 * 100 + 1", Probe.NO_SUM);
        sum("0 - 100000 * 100000 * 100 - 1", Probe.NO_SUM);
        sum("100000 * 100000 * 100 + 1 - 1", Probe.NO_SUM);
        sum("100000 * 100000 * 100 * 100 / 100", Probe.NO_SUM);
        sum("100000 * 100000 * 100 * 100000 * 100000", Probe.NO_SUM);
        sum("100000 * 100000 * 100 * [100000 * 100000 * 100]", Probe.NO_SUM);
        sum("99999 * 10001 * 1000 + 100000", Probe.NO_SUM);
        town();
        sum("99999 * 10000 * 1000", 999990000000L);
        sum("100000 * 100000 * 99 + 100000 * 100000", 1000000000000L);
        sum("0 - 100000 * 100000 * 99 - 100000 * 100000", -1000000000000L);
        sum("[0 - 100000] * 100000 * [0 - 100]", 1000000000000L);
        sum("100000 * 100000 * 100 * 0", 0);
        sum("0 * [100000 * 100000 * 100]", 0);
    }

    private static void tests() {
        town();
        test("1 < 2", 1);
        test("2 < 2", 0);
        test("2 > 1", 1);
        test("2 > 2", 0);
        test("2 = 2", 1);
        test("2 = 1", 0);
        test("age = 50", 1);
        test("poor", 1);
        test("not poor", 0);
        test("not not poor", 1);
        test("not (poor and dead)", 1);
        test("dead", 0);
        test("married", 0);
        test("holds", 1);
        test("certified", 0);
        test("dead or poor", 1);
        test("dead and poor", 0);
        test("poor or dead and dead", 1);
        test("(poor or dead) and dead", 0);
        test("dead and dead or poor", 1);
        test("dead or dead or poor", 1);
        test("poor and poor and dead", 0);
        test("poor and dead or dead and poor or poor and holds", 1);
        test("not dead and not married", 1);
        test("not 1 < 2", 0);
        test("not (not (1 > 2 or dead) and holds)", 0);
    }

    /** 2: BROKEN. */
    private static void brokenTests() {
        town();
        test("1 / 0 = 1", 2);
        test("not 1 / 0 = 1", 2);
        test("not not 1 / 0 = 1", 2);
        test("poor or 1 / 0 = 1", 1);
        test("dead or 1 / 0 = 1", 2);
        test("1 / 0 = 1 or poor", 2);
        test("dead and 1 / 0 = 1", 0);
        test("poor and 1 / 0 = 1", 2);
        test("1 / 0 = 1 and dead", 2);
        test("dead and 1 / 0 = 1 or poor", 1);
        test("poor or dead and 1 / 0 = 1", 1);
        test("dead and 1 / 0 = 1 and 1 / 0 = 1 or dead", 0);
        test("poor or 1 / 0 = 1 or 1 / 0 = 1", 1);
        test("(poor or 1 / 0 = 1) and dead", 0);
        test("not (dead and 1 / 0 = 1)", 1);
        town();
        int t = p.law("seat 5 if poor unless 1 / 0 = 1;seat 1 / 0 if dead;seat 5 unless dead or 1 / 0 < 1");
        p.due("\"unless\" BROKEN", p.x.holds(t, 0, 0, 100 * Y, 146399), 0);
        p.due("\"if\" not so, SUM BROKEN", p.x.holds(t, 1, 0, 100 * Y, 146399), 0);
        p.due("\"unless\" BROKEN behind \"or\"", p.x.holds(t, 2, 0, 100 * Y, 146399), 0);
        p.due("none COUNTS", p.x.counts(7, 0, 100 * Y, 146399, 0), Probe.NO_SUM);
    }

    private static void holdsWrong() {
        p.fresh();
        p.line(3, 100, 0, "ann lee.");
        p.text(0, 50, 60, "badge;strike 5 clause 5");
        p.due("holds", p.x.holds(0, 0, 0, 100, 100), 1);
        p.due("of a strike 0", p.x.holds(0, 1, 0, 100, 100), 0);
        p.due("not in force", p.x.holds(0, 0, 0, 49, 100), 0);
        p.due("the SOUL is not known", p.x.holds(0, 0, 0, 100, 99), -1);
        p.due("no TEXT", p.x.holds(1, 0, 0, 100, 100), -1);
        p.due("no TEXT", p.x.holds(-1, 0, 0, 100, 100), -1);
        p.due("no CLAUSE", p.x.holds(0, 2, 0, 100, 100), -1);
        p.due("no CLAUSE", p.x.holds(0, -1, 0, 100, 100), -1);
        p.due("no MENTION", p.x.holds(0, 0, 1, 100, 100), -1);
        p.due("no MENTION", p.x.holds(0, 0, -1, 100, 100), -1);
        p.due("no DAY", p.x.holds(0, 0, 0, -1, 100), -1);
        p.due("no DAY", p.x.holds(0, 0, 0, 146400, 100), -1);
        p.due("no DAY", p.x.holds(0, 0, 0, 100, 146400), -1);
    }

    private static void counts() {
        p.fresh();
        p.line(3, 100, 0, "ann lee.");
        p.due("none", p.x.counts(3, 0, 200, 200, 0), Probe.NO_SUM);
        p.due("none", p.x.counts(3, 0, 200, 200, 1), Probe.NO_SUM);
        p.due("none", p.x.counts(3, 0, 200, 200, 2), Probe.NO_SUM);
        p.text(1, 150, 0, "relief 5;relief 5;relief 9 if poor");
        p.text(0, 160, 0, "relief 7;relief 8;badge;relief 5");
        p.due("the first", p.x.counts(3, 0, 150, 200, 0), 5);
        p.due("by the second CLAUSE", p.x.counts(3, 0, 150, 200, 1), 1);
        p.due("no QUARREL", p.x.counts(3, 0, 150, 200, 2), 0);
        p.due("WORDS behind LAWS", p.x.counts(3, 0, 160, 200, 1), 1);
        p.due("QUARRELS", p.x.counts(3, 0, 160, 200, 2), 2);
        p.text(1, 170, 0, "relief 8 if not poor");
        p.due("told last", p.x.counts(3, 0, 170, 200, 0), 8);
        p.due("told last", p.x.counts(3, 0, 170, 200, 1), 24);
        p.due("QUARRELS", p.x.counts(3, 0, 170, 200, 2), 4);
        p.due("what -1", p.x.counts(3, 0, 170, 200, -1), Probe.NO_SUM);
        p.due("what 3", p.x.counts(3, 0, 170, 200, 3), Probe.NO_SUM);
        p.due("kind -1", p.x.counts(-1, 0, 170, 200, 0), Probe.NO_SUM);
        p.due("kind 8", p.x.counts(8, 0, 170, 200, 0), Probe.NO_SUM);
        p.due("no MENTION", p.x.counts(3, 3, 170, 200, 0), Probe.NO_SUM);
        p.due("not known", p.x.counts(3, 0, 170, 99, 0), Probe.NO_SUM);
        p.due("no DAY", p.x.counts(3, 0, -1, 200, 0), Probe.NO_SUM);
        p.due("no DAY", p.x.counts(3, 0, 170, 146400, 0), Probe.NO_SUM);
    }

    private static void kinds() {
        p.fresh();
        p.line(3, 0, 0, "ann lee.");
        p.law("rate church 1;rate way 2;rate poor 3;relief 4;fee bell 5;fee grave 6;fee wedding 7;seat 8 - 20");
        for (int kind = 0; kind < 7; kind++) {
            p.due("kind " + kind, p.x.counts(kind, 0, 0, 0, 0), kind + 1);
            p.due("CLAUSE of kind " + kind, p.x.counts(kind, 0, 0, 0, 1), kind);
        }
        p.due("below 0, too", p.x.counts(7, 0, 0, 0, 0), -12);
    }

    private static void about(String what, int mention, int day, int known, long... want) {
        for (int i = 0; i < want.length; i++) {
            p.due(what + ": about " + i, p.x.about(mention, day, known, i), want[i]);
        }
    }

    private static void aboutSouls() {
        town();
        p.line(2, 99 * Y, -1, "tom lee.");
        p.x.together(6, 12, 0);
        p.line(1, 78 * Y, -1, "bob lee, eve fox.");
        p.x.together(0, 15, 0);
        p.x.fact(0, 4, 3, 90 * Y, 95 * Y, 0);
        p.line(2, 120 * Y, 70, "bob lee.");
        p.x.together(0, 18, 130 * Y);
        int last = 146399;
        about("YEAR 100", 0, 100 * Y, last, 50, 1, 30, 50, 7, 1, 0, 1, 1, 0);
        about("YEAR 90", 0, 90 * Y, last, 40, 2, 30, 40, 0, 1, 0, 0, 1, 1);
        about("by another MENTION", 4, 90 * Y, last, 40, 2, 30, 40, 0, 1, 0, 0, 1, 1);
        about("YEAR 77", 0, 77 * Y, last, 27, 0, 30, 27, 0, 0, 0, 0, 1, 0);
        about("YEAR 120", 0, 120 * Y, last, 70, 1, 30, 70, 0, 1, 1, 0, 1, 0);
        about("YEAR 120 as known ahead", 0, 120 * Y, 120 * Y, 70, 1, 30, 70, 0, 1, 0, 0, 1, 0);
        about("ahead of the birth", 0, 40 * Y, last, 0, 0, 30, 0, 0, 0, 0, 0, 1, 0);
        p.due("a father without NAMES has it, too", p.x.about(1, 80 * Y, last, 1), 1);
        p.due("a child on its DAY", p.x.about(0, 80 * Y, last, 1), 1);
        p.due("a child a DAY ahead", p.x.about(0, 80 * Y - 1, last, 1), 0);
        p.due("both live", p.x.about(0, 99 * Y - 1, last, 1), 2);
        p.due("one died on that DAY", p.x.about(0, 99 * Y, last, 1), 1);
        p.due("married on that DAY", p.x.about(0, 78 * Y, last, 5), 1);
        p.due("not a DAY ahead", p.x.about(0, 78 * Y - 1, last, 5), 0);
        p.due("the bride, too", p.x.about(16, 78 * Y, last, 5), 1);
        p.due("365 DAYS behind", p.x.about(0, 100 * Y + 365, last, 4), 7);
        p.due("366 DAYS behind", p.x.about(0, 100 * Y + 366, last, 4), 0);
        p.due("poor till then", p.x.about(0, 100 * Y + 365, last, 7), 1);
        p.due("poor no more", p.x.about(0, 100 * Y + 366, last, 7), 0);
        p.due("certified first DAY", p.x.about(0, 90 * Y, last, 9), 1);
        p.due("certified last DAY", p.x.about(0, 95 * Y, last, 9), 1);
        p.due("a DAY ahead", p.x.about(0, 90 * Y - 1, last, 9), 0);
        p.due("a DAY behind", p.x.about(0, 95 * Y + 1, last, 9), 0);
        p.due("of others", p.x.about(16, 95 * Y, last, 9), 0);
        p.due("age cut", p.x.about(0, 51 * Y - 1, last, 0), 0);
        p.due("age", p.x.about(0, 51 * Y, last, 0), 1);
        p.due("age by c: the bride's is 14 ahead", p.x.about(16, 80 * Y, last, 0), 16);
        p.due("years by the first MENTION", p.x.about(16, 80 * Y, last, 3), 2);
        p.line(4, 100 * Y + 10, 5, "bob lee.");
        p.x.together(0, 21, 0);
        p.due("relieved twice", p.x.about(0, 100 * Y + 10, last, 4), 12);
        p.line(0, 101 * Y, -1, "zoe may, tim may, ivy may.");
        p.due("a father's child", p.x.about(25, 101 * Y, last, 1), 1);
        p.due("a mother's child", p.x.about(26, 101 * Y, last, 1), 1);
        p.due("a child's child", p.x.about(24, 101 * Y, last, 1), 0);
        p.line(4, 101 * Y, 1, "tim may.");
        p.due("poor by a penny", p.x.about(27, 101 * Y, last, 7), 1);
        p.x.holding();
        p.x.value(1, 1, 0, 0);
        p.x.hold(1, 27, 0, 0);
        p.due("holds of a penny", p.x.about(27, 101 * Y, last, 8), 1);
        p.due("what -1", p.x.about(0, 0, 0, -1), -1);
        p.due("what 10", p.x.about(0, 100 * Y, last, 10), -1);
        p.due("no MENTION", p.x.about(99, 100 * Y, last, 0), -1);
        p.due("not known", p.x.about(0, 100 * Y, 49 * Y, 0), -1);
        p.due("no DAY", p.x.about(0, 146400, last, 0), -1);
        p.due("no DAY", p.x.about(0, 0, 146400, 0), -1);
    }
}
