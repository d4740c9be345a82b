/** Terms IV, sentence by sentence: TEXTS, what is IN FORCE, what is asked of a SOUL, SUMS, what HOLDS and COUNTS. */
public final class EdgesOfLawsTest {
    private static final Probe p = new Probe();
    private static final int Y = 366;
    private static final int LAST = 146399;

    public static void main(String[] args) {
        numbers();
        wordsOfHeads();
        tests();
        nothingIsLeft();
        inForceByDays();
        strikes();
        strikesOfStrikes();
        strikesThatStrikeNothing();
        ages();
        children();
        values();
        years();
        relieved();
        marriedAndDead();
        certified();
        asKnown();
        sumsAtTheirEnds();
        sumsOnTheirWay();
        divided();
        comparisons();
        brokenTests();
        brokenOnes();
        brokenThenWhole();
        longTexts();
        knownOneByOne();
        countsInOrder();
        quarrels();
        p.finish("EdgesOfLawsTest");
    }

    // ---- the language

    /** "NUMBERS to 100,000; of \"turn\" to 399, of \"clause\" to 11, of \"strike\" to 29." */
    private static void numbers() {
        p.fresh();
        p.goodText("rate poor 100000;relief 0");
        p.badText("rate poor 100001", 10);
        p.badText("relief [100001]", 8);
        p.badText("badge if 1 < 100001", 13);
        p.goodText("badge if 100000 < 100000");
        p.goodText("turn constable 399;turn warden 0");
        p.badText("turn constable 400", 15);
        p.goodText("strike 29 clause 11");
        p.goodText("strike 0 clause 0");
        p.badText("strike 30 clause 11", 7);
        p.badText("strike 29 clause 12", 17);
        p.badText("strike 100000 clause 0", 7);
        p.goodText("strike 0029 clause 0011;turn warden 0000399");
    }

    /** Each word in its place, and none in another's. */
    private static void wordsOfHeads() {
        String[][] heads = {{"belong ", "birth", "hire", "rent", "office", "wed", "parents"}, {"exempt ", "church", "way", "poor"},
            {"rate ", "church 1", "way 1", "poor 1"}, {"turn ", "constable 1", "surveyor 1", "overseer 1", "warden 1"},
            {"fee ", "bell 1", "grave 1", "wedding 1"}};
        for (String[] one : heads) {
            p.fresh();
            for (int n = 1; n < one.length; n++) {
                p.goodText(one[0] + one[n]);
            }
            p.badText(one[0] + "age", one[0].length());
            p.badText(one[0] + "birt", one[0].length());
            p.badText(one[0] + "birthh", one[0].length());
            p.badText(one[0], one[0].length());
        }
        p.badText("belong poor", 7);
        p.badText("exempt bell", 7);
        p.badText("rate warden 1", 5);
        p.badText("turn poor 1", 5);
        p.badText("fee wed 1", 4);
        p.badText("badge 1", 6);
        p.badText("strikes 1 clause 1", 0);
        p.badText("strike 1 clauses 1", 9);
        p.badText("strike 1, clause 1", 8);
    }

    private static void tests() {
        p.fresh();
        p.goodText("badge if poor unless dead");
        p.goodText("badge unless dead");
        p.badText("badge unless dead if poor", 18);
        p.badText("badge if poor if dead", 14);
        p.badText("badge unless poor unless dead", 18);
        p.badText("badge if poor unless", 20);
        p.badText("badge if not", 12);
        p.badText("badge if not not", 16);
        p.badText("badge if ()", 10);
        p.badText("badge if (poor", 14);
        p.badText("badge if poor)", 13);
        p.badText("badge if (poor))", 15);
        p.badText("badge if age", 12);
        p.badText("badge if age <", 14);
        p.badText("badge if age < 1 > 2", 17);
        p.badText("badge if age << 1", 14);
        p.badText("badge if (age) < 1", 13);
        p.badText("seat married", 5);
        p.badText("seat (1)", 5);
        p.badText("seat 1 -", 8);
        p.badText("seat - 1", 5);
        p.badText("seat [1", 7);
        p.badText("seat 1]", 6);
        p.goodText("badge if [age] < 1");
        p.goodText("badge if not (not poor or dead and not 1 < 2)");
    }

    /** What one TEXT told of its CLAUSES is nothing to the next one's. */
    private static void nothingIsLeft() {
        p.fresh();
        p.line(3, 0, 5, "ann lee.");
        p.law("rate poor 5 if poor unless dead;fee wedding 7 if dead;turn warden 9 unless poor;belong parents");
        p.law("relief 3;seat 4;badge;exempt church");
        p.due("relief", p.x.counts(3, 0, 0, 0, 0), 3);
        p.due("seat", p.x.counts(7, 0, 0, 0, 0), 4);
        for (int clause = 0; clause < 4; clause++) {
            p.due("CLAUSE " + clause, p.x.holds(1, clause, 0, 0, 0), 1);
        }
        p.refused("a TEXT that can't be", p.law("rate poor 9;badge if"), -6);
        p.taken("the next one", p.law("relief 8"), 2);
        p.due("it has one CLAUSE", p.x.force(2, 1, 0, 0), -1);
        p.due("relief", p.x.counts(3, 0, 0, 0, 0), 8);
        p.due("no rate", p.x.counts(2, 0, 0, 0, 0), Probe.NO_SUM);
    }

    // ---- IN FORCE

    /** "of TEXTS known by k, from d or ahead of it on" */
    private static void inForceByDays() {
        p.fresh();
        p.text(0, 1000, 500, "badge");
        int[][] want = {{999, 500, 0}, {1000, 500, 1}, {1001, 500, 1}, {1000, 499, 0}, {1000, 501, 1}, {0, LAST, 0}, {LAST, LAST, 1},
            {LAST, 0, 0}, {0, 0, 0}};
        for (int[] one : want) {
            p.due("on " + one[0] + " as known on " + one[1], p.x.force(0, 0, one[0], one[1]), one[2]);
        }
        p.text(0, 0, 0, "strike 0 clause 0");
        p.due("a TEXT that is not in force yet may be struck", p.x.force(0, 0, 1000, 500), 0);
    }

    /** "STRUCK by a \"strike\" that is in force itself of a TEXT told later" */
    private static void strikes() {
        p.fresh();
        p.text(0, 0, 0, "badge;strike 0 clause 0;badge");
        p.due("its own TEXT's", p.x.force(0, 0, 0, 0), 1);
        p.text(0, 0, 0, "strike 2 clause 0;badge");
        p.text(1, 1000, 500, "badge;strike 0 clause 2;strike 1 clause 1");
        p.due("one told later is not struck", p.x.force(2, 0, 1000, 500), 1);
        p.due("a LAW by a WORD", p.x.force(0, 2, 1000, 500), 0);
        p.due("two of one TEXT", p.x.force(1, 1, 1000, 500), 0);
        p.due("a DAY ahead", p.x.force(0, 2, 999, 500), 1);
        p.due("as known a DAY ahead", p.x.force(0, 2, 1000, 499), 1);
        p.due("the others stay", p.x.force(0, 0, 1000, 500), 1);
        p.text(0, 2000, 600, "strike 2 clause 0");
        p.due("a WORD by a LAW", p.x.force(2, 0, 2000, 600), 0);
        p.due("a DAY ahead", p.x.force(2, 0, 1999, 600), 1);
    }

    /** A row of TEXTS, each of which strikes the one ahead of it: every other one stands. */
    private static void strikesOfStrikes() {
        p.fresh();
        p.law("badge");
        for (int n = 1; n < 30; n++) {
            p.law("strike " + (n - 1) + " clause 0");
            p.due("by " + n, p.x.force(0, 0, 0, 0), n % 2 == 0 ? 1 : 0);
        }
        for (int n = 0; n < 30; n++) {
            p.due("TEXT " + n, p.x.force(n, 0, 0, 0), n % 2 == 1 ? 1 : 0);
        }
        // Struck twice: one of both is struck itself.
        p.fresh();
        p.law("badge");
        p.law("strike 0 clause 0");
        p.law("strike 0 clause 0");
        p.law("strike 1 clause 0");
        p.due("by the other one", p.x.force(0, 0, 0, 0), 0);
        p.law("strike 2 clause 0");
        p.due("by none", p.x.force(0, 0, 0, 0), 1);
    }

    private static void strikesThatStrikeNothing() {
        p.fresh();
        p.law("badge");
        p.law("strike 0 clause 1;strike 0 clause 11;strike 29 clause 0;strike 1 clause 3;strike 2 clause 0");
        p.due("no such CLAUSE, no such TEXT", p.x.force(0, 0, 0, 0), 1);
        p.law("badge");
        p.due("it was told later", p.x.force(2, 0, 0, 0), 1);
        p.due("a strike is IN FORCE", p.x.force(1, 0, 0, 0), 1);
        p.line(3, 0, 5, "ann lee.");
        p.due("but HOLDS for none", p.x.holds(1, 0, 0, 0, 0), 0);
    }

    // ---- of a SOUL

    private static void asked(String what, int number, int mention, int[][] daysAndAnswers) {
        for (int[] one : daysAndAnswers) {
            p.due(what + " on " + one[0], p.x.about(mention, one[0], LAST, number), one[1]);
        }
    }

    /** "age: d less c of its SPAN, through 366, cut, at least 0." */
    private static void ages() {
        p.fresh();
        p.line(0, 1000, -1, ".");
        asked("a child's age", 0, 0, new int[][] {{0, 0}, {634, 0}, {999, 0}, {1000, 0}, {1365, 0}, {1366, 1}, {1731, 1}, {1732, 2},
            {LAST, (LAST - 1000) / 366}});
        asked("a father's age, by DAY 0", 0, 1, new int[][] {{0, 0}, {365, 0}, {366, 1}});
        p.line(0, 20 * Y, -1, ".");
        asked("a father's age", 0, 4, new int[][] {{6 * Y, 0}, {7 * Y - 1, 0}, {7 * Y, 1}, {20 * Y, 14}});
    }

    /** "SOULS with a child's MENTION of a DAY not behind d .., and that have no dead's of a DAY not behind d." */
    private static void children() {
        p.fresh();
        p.line(0, 1000, -1, "ann lee, bob lee, eve lee.");
        p.line(2, 5000, -1, "ann lee.");
        p.x.together(0, 3, 0);
        for (int parent = 1; parent < 3; parent++) {
            asked("children of " + parent, 1, parent,
                    new int[][] {{0, 0}, {999, 0}, {1000, 1}, {4999, 1}, {5000, 0}, {LAST, 0}});
        }
        p.line(0, 1000, -1, "tom lee, bob lee, eve lee.");
        p.due("another father's", p.x.about(1, 1000, LAST, 1), 1);
        p.x.together(1, 7, 0);
        p.due("one SOUL: both", p.x.about(1, 1000, LAST, 1), 2);
        p.due("as known", p.x.about(1, 1000, 999, 1), -1);
        p.due("a child has none", p.x.about(0, 1000, LAST, 1), 0);
    }

    /** "value: the VALUES of HOLDINGS that it holds on d." "holds: value is above 0." */
    private static void values() {
        p.fresh();
        p.line(3, 0, 5, "ann lee.");
        p.line(3, 0, 5, "bob lee.");
        p.x.holding();
        p.x.holding();
        p.x.value(0, 1, 1000, 0);
        p.x.value(1, 10, 0, 0);
        p.x.hold(0, 0, 500, 0);
        p.x.hold(1, 0, 2000, 0);
        p.x.hold(1, 3, 3000, 0);
        asked("value", 2, 0, new int[][] {{499, 0}, {999, 0}, {1000, 1}, {1999, 1}, {2000, 11}, {2999, 11}, {3000, 1}, {LAST, 1}});
        asked("holds", 8, 0, new int[][] {{499, 0}, {999, 0}, {1000, 1}, {LAST, 1}});
        asked("value of the other", 2, 3, new int[][] {{2999, 0}, {3000, 10}});
        asked("holds of the other", 8, 3, new int[][] {{2999, 0}, {3000, 1}});
    }

    /** "years: d less its first MENTION's DAY (not behind d; 0 without), through 366, cut." */
    private static void years() {
        p.fresh();
        p.line(3, 0, 2000, 0, 5, "ann lee.");
        p.line(3, 0, 1000, 0, 5, "ann lee.");
        asked("years", 3, 0, new int[][] {{0, 0}, {1999, 0}, {2000, 0}, {2365, 0}, {2366, 1}, {2731, 1}, {2732, 2}});
        p.x.together(0, 3, 0);
        asked("years of both", 3, 0, new int[][] {{0, 0}, {999, 0}, {1000, 0}, {1365, 0}, {1366, 1}, {2000, 2}, {2097, 2}, {2098, 3}});
    }

    /** "relieved: pence of relief LINES of it of DAYS from d less 365 to d." "poor: relieved is above 0." */
    private static void relieved() {
        p.fresh();
        p.line(4, 0, 1000, 0, 1, "ann lee.");
        asked("relieved", 4, 0, new int[][] {{999, 0}, {1000, 1}, {1365, 1}, {1366, 0}, {0, 0}, {LAST, 0}});
        asked("poor", 7, 0, new int[][] {{999, 0}, {1000, 1}, {1365, 1}, {1366, 0}});
        p.line(4, 0, 1365, 0, 100000, "ann lee.");
        p.line(3, 0, 1200, 0, 500, "ann lee.");
        p.line(4, 0, 100, 0, 0, "ann lee.");
        p.x.together(0, 3, 0);
        p.x.together(0, 6, 0);
        p.x.together(0, 9, 0);
        asked("relieved by two, rates are none", 4, 0, new int[][] {{1364, 1}, {1365, 100001}, {1366, 100000}, {1730, 100000}, {1731, 0}});
        asked("relief of 0 makes none poor", 7, 0, new int[][] {{100, 0}, {999, 0}, {1730, 1}, {1731, 0}});
    }

    /** "married: a groom's or bride's MENTION of a DAY not behind d. dead: a dead's likewise." */
    private static void marriedAndDead() {
        p.fresh();
        p.line(1, 1000, -1, "bob lee, eve fox.");
        p.line(2, 2000, -1, "bob lee.");
        p.line(0, 1500, -1, "ann lee, bob lee, eve lee.");
        p.x.together(0, 3, 0);
        asked("the groom married", 5, 0, new int[][] {{0, 0}, {999, 0}, {1000, 1}, {LAST, 1}});
        asked("the bride married", 5, 1, new int[][] {{999, 0}, {1000, 1}});
        asked("a father is not", 5, 7, new int[][] {{1500, 0}, {LAST, 0}});
        asked("the groom dead", 6, 0, new int[][] {{0, 0}, {1999, 0}, {2000, 1}, {LAST, 1}});
        asked("the bride is not", 6, 1, new int[][] {{2000, 0}, {LAST, 0}});
    }

    /** "certified: a CERTIFICATE from .. to has d." */
    private static void certified() {
        p.fresh();
        p.line(3, 0, 5, "ann lee.");
        p.line(3, 0, 5, "ann lee.");
        p.x.fact(0, 4, 0, 1000, 2000, 0);
        p.x.fact(0, 3, 0, 0, 500, 0);
        asked("certified", 9, 0, new int[][] {{0, 0}, {999, 0}, {1000, 1}, {2000, 1}, {2001, 0}});
        p.x.fact(3, 4, 11, 3000, 3000, 0);
        asked("of one DAY", 9, 3, new int[][] {{2999, 0}, {3000, 1}, {3001, 0}, {1000, 0}});
        p.x.together(0, 3, 0);
        asked("of one SOUL", 9, 0, new int[][] {{1000, 1}, {3000, 1}, {2500, 0}});
    }

    /** "(MENTIONS, LINES as known on k.)" */
    private static void asKnown() {
        p.fresh();
        p.line(3, 0, 0, 0, 5, "ann lee.");
        p.line(4, 0, 1000, 2000, 7, "ann lee.");
        p.line(1, 0, 1000, 3000, -1, "ann lee, eve lee.");
        p.line(2, 0, 1500, 4000, -1, "ann lee.");
        p.line(0, 0, 1000, 5000, -1, "tom ?, ann ?.");
        p.x.together(0, 3, 2500);
        p.x.together(0, 6, 0);
        p.x.together(0, 9, 0);
        p.x.together(0, 13, 5500);
        int[][] want = {{4, 2499, 0}, {4, 2500, 7}, {7, 2499, 0}, {7, 2500, 1}, {5, 2999, 0}, {5, 3000, 1}, {6, 3999, 0},
            {6, 4000, 1}, {1, 5499, 0}, {1, 5500, 1}};
        for (int[] one : want) {
            p.due("about " + one[0] + " as known on " + one[1], p.x.about(0, one[0] == 6 ? 1500 : 1100, one[1], one[0]), one[2]);
        }
    }

    // ---- SUMS

    private static void sum(String sum, long want) {
        p.fresh();
        p.line(3, 0, 5, "ann lee.");
        p.law("seat " + sum);
        p.due("seat " + sum, p.x.counts(7, 0, 0, 0, 0), want);
        p.due("it HOLDS: " + sum, p.x.holds(0, 0, 0, 0, 0), want == Probe.NO_SUM ? 0 : 1);
        p.due("its CLAUSE: " + sum, p.x.counts(7, 0, 0, 0, 1), want == Probe.NO_SUM ? Probe.NO_SUM : 0);
    }

    /** "A SUM that comes beyond 1,000,000,000,000 either way on its way .. is BROKEN" */
    private static void sumsAtTheirEnds() {
        String most = "100000*100000*100";
        sum(most, 1000000000000L);
        sum(most + "+0", 1000000000000L);
        sum(most + "+1", Probe.NO_SUM);
        sum("0-" + most, -1000000000000L);
        sum("0-" + most + "-0", -1000000000000L);
        sum("0-" + most + "-1", Probe.NO_SUM);
        sum("0-" + most + "+1", -999999999999L);
        sum(most + "-1", 999999999999L);
        sum(most + "*1", 1000000000000L);
        sum(most + "*2", Probe.NO_SUM);
        sum("[0-1]*[" + most + "]", -1000000000000L);
        sum("[0-2]*[" + most + "]", Probe.NO_SUM);
        sum("[0-1]*[0-" + most + "]", 1000000000000L);
        sum("[0-" + most + "]*[0-1]", 1000000000000L);
        sum("[0-" + most + "]*[0-" + most + "]", Probe.NO_SUM);
        sum(most + "*0", 0);
        sum("0*[" + most + "]", 0);
        sum("1000*1000*1000*1000", 1000000000000L);
        sum("1001*1000*1000*1000", Probe.NO_SUM);
        sum("99999*100000*100", 999990000000L);
        sum("[99999*100000+99999]*100+100", 1000000000000L);
        sum("[99999*100000+99999]*100+101", Probe.NO_SUM);
    }

    private static void sumsOnTheirWay() {
        String most = "100000*100000*100";
        sum(most + "+1-1", Probe.NO_SUM);
        sum("1-1+" + most, 1000000000000L);
        sum("[" + most + "+1]*0", Probe.NO_SUM);
        sum("0*[" + most + "+1]", Probe.NO_SUM);
        sum(most + "*10/10", Probe.NO_SUM);
        sum(most + "/10*10", 1000000000000L);
        sum("0-" + most + "-1+1", Probe.NO_SUM);
        // So great that a long would go round.
        sum("[" + most + "]*[" + most + "]*[" + most + "]", Probe.NO_SUM);
        sum("100000*100000*90*[100000*100000*90]*4", Probe.NO_SUM);
    }

    /** "or is divided by 0 ..; / is cut towards 0." */
    private static void divided() {
        sum("0/0", Probe.NO_SUM);
        sum("5/0", Probe.NO_SUM);
        sum("5/[1-1]", Probe.NO_SUM);
        sum("5/age", Probe.NO_SUM);
        sum("0/5", 0);
        sum("7/2", 3);
        sum("[0-7]/2", -3);
        sum("7/[0-2]", -3);
        sum("[0-7]/[0-2]", 3);
        sum("1/2", 0);
        sum("[0-1]/2", 0);
        sum("6/3", 2);
        sum("7-7/2", 4);
        sum("100000*100000*100/[0-1]", -1000000000000L);
        sum("7/2*2", 6);
        sum("2*7/2", 7);
        sum("10-2-3", 5);
        sum("10-2*3", 4);
        sum("[10-2]*3", 24);
    }

    private static void test(String test, int want) {
        p.fresh();
        p.line(4, 0, 5, "ann lee.");
        int text = p.law("badge if " + test + ";badge unless " + test);
        p.due("if " + test, p.x.holds(text, 0, 0, 0, 0), want == 1 ? 1 : 0);
        p.due("unless " + test, p.x.holds(text, 1, 0, 0, 0), want == 0 ? 1 : 0);
    }

    private static void comparisons() {
        test("1 < 2", 1);
        test("2 < 2", 0);
        test("3 < 2", 0);
        test("3 > 2", 1);
        test("2 > 2", 0);
        test("1 > 2", 0);
        test("2 = 2", 1);
        test("1 = 2", 0);
        test("3 = 2", 0);
        test("0 - 1 < 0", 1);
        test("relieved = 5", 1);
        test("relieved > 5", 0);
        test("relieved > 4", 1);
    }

    /** 2: BROKEN; "of \"or\", \"and\" what stands behind a side that settles it is not" worked out. */
    private static void brokenTests() {
        String broken = "1 / 0 = 0";
        String[] wholes = {broken, "not " + broken, "(" + broken + ")", "poor and " + broken, "dead or " + broken,
            broken + " or poor", broken + " and dead", "poor and (dead or " + broken + ")", "0 / 0 < 1", "1 < 1 / 0",
            "dead or dead or " + broken, "poor and poor and " + broken, "not (poor and " + broken + ")"};
        for (String one : wholes) {
            test(one, 2);
        }
        test("poor or " + broken, 1);
        test("dead and " + broken, 0);
        test("poor or dead or " + broken, 1);
        test("dead and poor and " + broken, 0);
        test("dead and " + broken + " or poor", 1);
        test("dead or poor or " + broken, 1);
        test("poor and dead and " + broken, 0);
        test("not (dead and " + broken + ")", 1);
        test("(poor or " + broken + ") and (dead and " + broken + " or poor)", 1);
        test("poor or (" + broken + ")", 1);
        test("dead and not " + broken, 0);
        // A SUM beyond what it may be breaks a TEST, too.
        test("100000 * 100000 * 101 > 0", 2);
        test("100000 * 100000 * 100 > 0", 1);
    }

    /** "neither is BROKEN .., nor its own SUM." */
    private static void brokenOnes() {
        p.fresh();
        p.line(4, 0, 5, "ann lee.");
        int t = p.law("seat 5 if poor unless dead;seat 5 if 1/0=1;seat 5 unless 1/0=1;seat 1/0;seat 5 if poor unless 1/0=1;"
                + "seat 5 if dead unless 1/0=1;seat 1/0 if dead;seat 1/0 if poor;seat 6 unless poor and dead");
        int[] want = {1, 0, 0, 0, 0, 0, 0, 0, 1};
        for (int c = 0; c < want.length; c++) {
            p.due("CLAUSE " + c, p.x.holds(t, c, 0, 0, 0), want[c]);
        }
        p.due("the last that HOLDS COUNTS", p.x.counts(7, 0, 0, 0, 1), 8);
        p.due("of those that HOLD one QUARRELS", p.x.counts(7, 0, 0, 0, 2), 1);
    }

    /** A SUM that is BROKEN is nothing to a CLAUSE without one that is asked behind it. */
    private static void brokenThenWhole() {
        p.fresh();
        p.line(4, 0, 5, "ann lee.");
        p.x.holding();
        p.x.value(0, 10, 0, 0);
        p.x.hold(0, 0, 0, 0);
        p.x.levy(2, 0, 100, 0);
        p.x.fact(0, 0, 7, 0, 0, 0);
        p.law("seat 1 / 0;badge;rate poor 1 / 0;belong birth;fee bell 1 / 0;turn warden 0;relief 1 / 0;exempt poor");
        int[] want = {0, 1, 0, 1, 0, 1, 0, 1};
        for (int c = 0; c < 8; c++) {
            p.due("CLAUSE " + c, p.x.holds(0, c, 0, 0, 0), want[c]);
        }
        p.due("no seat", p.x.counts(7, 0, 0, 0, 0), Probe.NO_SUM);
        p.due("BADGE", p.x.badge(0, 0, 0), 1);
        p.due("no rate", p.x.counts(2, 0, 0, 0, 0), Probe.NO_SUM);
        p.due("BELONGS", p.x.belong(0, 0, 0, 0), 7);
        p.due("no fee", p.x.counts(4, 0, 0, 0, 0), Probe.NO_SUM);
        p.due("TURN", p.x.turn(3, 0, 0, 0), 0);
        p.due("no relief", p.x.counts(3, 0, 0, 0, 0), Probe.NO_SUM);
        p.due("exempt", p.x.owe(0, 0, 0), 0);
    }

    /** Thirty TEXTS of as many PARTS as there may be. */
    private static void longTexts() {
        p.fresh();
        p.line(3, 0, 5, "ann lee.");
        for (int t = 0; t < 30; t++) {
            StringBuilder text = new StringBuilder("seat ").append(t);
            for (int n = 1; n < 58; n++) {
                text.append("+1");
            }
            p.due("TEXT " + t, p.law(text + " if 1<2"), t);
            p.due("its SUM", p.x.counts(7, 0, 0, 0, 0), t + 57);
        }
        p.due("all others QUARREL", p.x.counts(7, 0, 0, 0, 2), 29);
        for (int t = 0; t < 30; t++) {
            p.due("TEXT " + t + " HOLDS", p.x.holds(t, 0, 0, 0, 0), 1);
        }
    }

    /** The DAY ahead of that on which a TEXT is known, then that DAY, whatever number of calls came ahead. */
    private static void knownOneByOne() {
        for (int ahead = 0; ahead < 6; ahead++) {
            for (int known = 1; known < 10; known++) {
                p.fresh();
                for (int n = 0; n < ahead; n++) {
                    p.x.terms(0, 0, 0, 0, n);
                }
                p.text(0, 0, known, "badge");
                p.due("as known on " + (known - 1), p.x.force(0, 0, 5, known - 1), 0);
                p.due("as known on " + known, p.x.force(0, 0, 5, known), 1);
                p.due("as known on " + (known - 1) + " again", p.x.force(0, 0, 5, known - 1), 0);
            }
        }
    }

    /** "the last one in order: LAWS first, then WORDS, as they were told." */
    private static void countsInOrder() {
        p.fresh();
        p.line(3, 0, 5, "ann lee.");
        counted(Probe.NO_SUM, Probe.NO_SUM);
        p.text(0, 0, 0, "seat 1");
        counted(1, 0);
        p.text(0, 0, 0, "seat 2;seat 3");
        counted(3, 13);
        p.text(1, 0, 0, "seat 4");
        counted(4, 24);
        p.text(0, 0, 0, "seat 5");
        counted(4, 24);
        p.text(1, 0, 0, "seat 6;seat 7 if poor");
        counted(6, 48);
        p.text(1, 0, 0, "strike 4 clause 0;strike 2 clause 0");
        counted(5, 36);
        p.text(0, 0, 0, "strike 3 clause 0");
        counted(3, 13);
    }

    private static void counted(long sum, long by) {
        p.due("SUM", p.x.counts(7, 0, 0, 0, 0), sum);
        p.due("by", p.x.counts(7, 0, 0, 0, 1), by);
        p.due("QUARRELS, if any", p.x.counts(7, 0, 0, 0, 2) >= 0 ? 1 : 0, sum == Probe.NO_SUM ? 0 : 1);
    }

    /** "QUARRELS: how many of the others that HOLD have another SUM than it." */
    private static void quarrels() {
        p.fresh();
        p.line(3, 0, 5, "ann lee.");
        p.law("relief 5");
        p.due("none beside it", p.x.counts(3, 0, 0, 0, 2), 0);
        p.law("relief 5;relief 4 + 1");
        p.due("all alike", p.x.counts(3, 0, 0, 0, 2), 0);
        p.law("relief 6 if poor;relief 1 / 0;seat 6;rate poor 6;fee bell 6");
        p.due("none of those HOLDS, or is of this kind", p.x.counts(3, 0, 0, 0, 2), 0);
        p.law("relief 6");
        p.due("three others", p.x.counts(3, 0, 0, 0, 2), 3);
        p.word("relief 5");
        p.due("one other", p.x.counts(3, 0, 0, 0, 2), 1);
        p.law("rate church 1;rate way 2");
        p.due("of one WHAT alone", p.x.counts(2, 0, 0, 0, 2), 0);
        p.due("of one WHAT alone", p.x.counts(0, 0, 0, 0, 2), 0);
        p.law("fee grave 1;fee wedding 2");
        p.due("of one FEE alone", p.x.counts(4, 0, 0, 0, 2), 0);
        p.due("of one FEE alone", p.x.counts(5, 0, 0, 0, 2), 0);
    }
}
