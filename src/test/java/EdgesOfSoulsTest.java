/** Terms III, sentence by sentence: REASONS, WORTH, SOULS, JOININGS, SPANS, PAGES. */
public final class EdgesOfSoulsTest {
    private static final Probe p = new Probe();
    private static final int Y = 366;
    private static final int LAST = 146399;

    public static void main(String[] args) {
        firstReason();
        familiesOfWomen();
        bothOfAKind();
        childAndOthers();
        deadAndOthers();
        firstAndLastDays();
        yearsBetween();
        alteredAge();
        worthOfNames();
        worthOfAges();
        kinIsAnotherRole();
        kinByFamilies();
        kinOfLateLines();
        kinOfOtherLines();
        soulsInOrder();
        waitsTillThatIsSoNoMore();
        toldTwiceWhileWaiting();
        apartForAllDays();
        kinOfUnknownRoles();
        childrenOfUnknownRoles();
        spousesByLines();
        groupsOfJoinings();
        rivals();
        joinOfTheBest();
        greatestWorth();
        clearedAtFirst();
        spanOfOne();
        spanOfMore();
        spanBelowAndAbove();
        spanOfAlteredAges();
        leastOfBirths();
        leastOfBurials();
        mostOfDays();
        mostOfPages();
        guessedDays();
        guessedLines();
        guessedPages();
        guessedRounded();
        filledOfAnEmptyChest();
        p.finish("EdgesOfSoulsTest");
    }

    private static void both(String what, int a, int b, int want) {
        p.due(what, p.x.reason(a, b), want);
        p.due(what + ", the other way", p.x.reason(b, a), want);
    }

    /** "CAN'T be one soul for the first of these REASONS": each one ahead of the next. */
    private static void firstReason() {
        p.fresh();
        p.line(0, 20 * Y, -1, "ann lee, bob lee, eve lee.");
        p.line(0, 50 * Y, -1, "tom fox, bob lee, eve lee.");
        p.line(0, 50 * Y, -1, "ann fox, bob lee, eve lee.");
        p.line(0, 50 * Y, -1, "ann lee, bob lee, eve lee.");
        p.line(2, 10 * Y, 40, "ann lee.");
        p.line(2, 60 * Y, 45, "ann lee.");
        p.line(2, 60 * Y, 40, "ann lee.");
        p.x.apart(0, 1);
        p.x.apart(3, 0);
        both("1 ahead of 2", 0, 1, 1);
        both("1 ahead of 3", 0, 2, 1);
        both("2 ahead of 3", 0, 3, 2);
        both("3 ahead of 4", 3, 9, 3);
        both("4 ahead of 5", 0, 6, 4);
        both("5 ahead of 6", 0, 9, 5);
        both("5 ahead of 6, both dead", 12, 15, 5);
        both("6 ahead of 7", 0, 12, 6);
        both("7", 0, 15, 7);
        both("0", 0, 18, 0);
    }

    /** "4 both families' are known and not ALIKE, and none of both is a mother or a bride" */
    private static void familiesOfWomen() {
        p.fresh();
        p.line(0, 20 * Y, -1, "ann a, ann b, ann c.");
        p.line(1, 20 * Y, -1, "ann d, ann e.");
        p.line(4, 20 * Y, 5, "ann f.");
        both("a father", 1, 6, 4);
        both("a mother", 2, 6, 0);
        both("a groom", 3, 6, 4);
        both("a bride", 4, 6, 0);
        both("a child", 0, 6, 4);
        both("a mother and a bride", 2, 4, 0);
        p.line(4, 20 * Y, 5, "ann ?.");
        both("one is unknown", 1, 9, 0);
    }

    /** "5 both are children, or both dead, or one is a groom or a father and the other one a bride or a mother" */
    private static void bothOfAKind() {
        p.fresh();
        int d = 100 * Y;
        p.line(0, d, -1, ".");
        p.line(0, d, -1, ".");
        p.line(1, d, -1, ".");
        p.line(1, d, -1, ".");
        for (int book = 2; book < 6; book++) {
            p.line(book, d, book == 2 ? -1 : 1, ".");
            p.line(book, d, book == 2 ? -1 : 1, ".");
        }
        both("children", 0, 3, 5);
        both("the dead", 12, 15, 5);
        both("who paid", 18, 21, 0);
        both("who got relief", 24, 27, 0);
        both("who is sent", 30, 33, 0);
        both("fathers", 1, 4, 0);
        both("mothers", 2, 5, 0);
        both("grooms", 6, 9, 0);
        both("brides", 7, 10, 0);
        both("father, mother", 1, 5, 5);
        both("father, bride", 1, 10, 5);
        both("groom, bride", 6, 10, 5);
        both("groom, mother", 6, 5, 5);
        both("father, groom", 1, 6, 0);
        both("mother, bride", 2, 7, 0);
    }

    /** A child of DAY b and another one of some DAY behind it. */
    private static void life(String what, int book, int role, int b, int off, int want) {
        p.fresh();
        p.line(0, b, -1, ".");
        p.line(book, b + off, book < 3 ? -1 : 1, ".");
        both(what + " " + off, 0, 3 + role, want);
    }

    /** "6 one is a child of DAY b and the other one's DAY is ahead of b, or, of a groom .., ahead of b and 14 times 366 .." */
    private static void childAndOthers() {
        int b = 100 * Y + 77;
        int grown = 14 * 366;
        int old = 50 * 366;
        for (int book = 2; book < 6; book++) {
            life("BOOK " + book, book, 0, b, -1, 6);
            life("BOOK " + book, book, 0, b, 0, 0);
            life("BOOK " + book, book, 0, b, 200 * Y, 0);
        }
        int[][] grownOnes = {{1, 0}, {1, 1}, {0, 1}, {0, 2}};
        for (int[] one : grownOnes) {
            String what = "BOOK " + one[0] + ", ROLE " + one[1];
            life(what, one[0], one[1], b, -1, 6);
            life(what, one[0], one[1], b, 0, 6);
            life(what, one[0], one[1], b, grown - 1, 6);
            life(what, one[0], one[1], b, grown, 0);
            life(what, one[0], one[1], b, old, 0);
            life(what, one[0], one[1], b, old + 1, one[0] == 0 && one[1] == 2 ? 6 : 0);
        }
    }

    private static void death(String what, int book, int role, int d, int off, int want) {
        p.fresh();
        p.line(2, d, -1, ".");
        p.line(book, d + off, book < 3 ? -1 : 1, ".");
        both(what + " " + off, 0, 3 + role, want);
    }

    /** "or one is dead on DAY d and the other one's DAY is behind d, of a father behind d and 366" */
    private static void deadAndOthers() {
        int d = 100 * Y + 77;
        int[][] ones = {{0, 0}, {0, 2}, {1, 0}, {1, 1}, {3, 0}, {4, 0}, {5, 0}};
        for (int[] one : ones) {
            String what = "BOOK " + one[0] + ", ROLE " + one[1];
            death(what, one[0], one[1], d, 0, 0);
            death(what, one[0], one[1], d, 1, 6);
            death(what, one[0], one[1], d, -1, 0);
        }
        death("a father", 0, 1, d, 1, 0);
        death("a father", 0, 1, d, 366, 0);
        death("a father", 0, 1, d, 367, 6);
    }

    private static void firstAndLastDays() {
        life("born on DAY 0, a groom", 1, 0, 0, 14 * Y, 0);
        life("born on DAY 0, a groom", 1, 0, 0, 14 * Y - 1, 6);
        life("born on DAY 0, paid on the last", 3, 0, 0, LAST, 0);
        life("born on the last DAY, paid on it", 3, 0, LAST, 0, 0);
        life("born on the last DAY, paid ahead", 3, 0, LAST, -1, 6);
        life("born on the last DAY, paid on the first", 3, 0, LAST, -LAST, 6);
        death("dead on DAY 0, paid on it", 3, 0, 0, 0, 0);
        death("dead on DAY 0, paid on DAY 1", 3, 0, 0, 1, 6);
        death("dead on the last DAY, a father", 0, 1, LAST, 0, 0);
    }

    /** "7 .. the YEARS between are more or fewer than AGE by more than SLACK" (2 at first): by YEARS, whatever the DAYS. */
    private static void yearsBetween() {
        int[][] days = {{20 * Y, 60 * Y}, {20 * Y + 365, 60 * Y}, {20 * Y, 60 * Y + 365}, {20 * Y + 365, 60 * Y + 365}};
        for (int[] one : days) {
            p.fresh();
            p.line(0, one[0], -1, ".");
            for (int age = 36; age <= 44; age++) {
                int line = p.line(2, one[1], age, ".");
                both("AGE " + age, 0, line * 3, age < 38 || age > 42 ? 7 : 0);
            }
        }
        p.fresh();
        p.line(0, 5 * Y + 7, -1, ".");
        for (int age = 0; age < 5; age++) {
            int line = p.line(2, 5 * Y + 7, age, ".");
            both("on its birth's DAY, AGE " + age, 0, line * 3, age > 2 ? 7 : 0);
        }
        int line = p.line(2, 200 * Y, -1, ".");
        both("without an AGE", 0, line * 3, 0);
    }

    private static void alteredAge() {
        p.fresh();
        p.line(0, 20 * Y, -1, ".");
        p.line(2, 60 * Y, 40, ".");
        p.line(2, 20 * Y, -1, ".");
        p.x.alter(1, 2);
        both("AGE 42", 0, 3, 0);
        p.x.alter(1, 1);
        both("AGE 43", 0, 3, 7);
        p.x.alter(1, 1);
        p.x.alter(1, 2);
        both("AGE 40", 0, 3, 0);
        p.x.alter(2, 1);
        both("NONE ALTERED is -2: 2 off", 0, 6, 0);
        p.due("it is one with an AGE", p.x.worth(0, 6), 5);
        p.x.alter(2, 3);
        both("-3: 3 off", 0, 6, 7);
        p.x.alter(2, 2);
        both("NONE again", 0, 6, 0);
        p.due("without one", p.x.worth(0, 6), 0);
    }

    /** "GIVEN if both given NAMES are known .., FAMILY if both families' are known and ALIKE" */
    private static void worthOfNames() {
        p.fresh();
        p.x.terms(1, 10, 0, 0, 0);
        String[] names = {"ann lee", "ann ?", "? lee", "? ?", "ann- le-"};
        int[][] want = {{11, 1, 10, 0, 11}, {1, 1, 0, 0, 1}, {10, 0, 10, 0, 10}, {0, 0, 0, 0, 0}, {11, 1, 10, 0, 11}};
        for (int n = 0; n < 10; n++) {
            p.line(3, 0, 0, names[n % 5] + ".");
        }
        for (int a = 0; a < 5; a++) {
            for (int b = 0; b < 5; b++) {
                p.due(names[a] + " with " + names[b], p.x.worth(a * 3, 15 + b * 3), want[a][b]);
            }
        }
        p.line(1, 0, -1, "?, ann fox.");
        p.due("a bride of another family: GIVEN alone", p.x.worth(0, 31), 1);
        p.line(1, 0, -1, "?, ann lee.");
        p.due("a bride of that family", p.x.worth(0, 34), 11);
    }

    /** "AGES if one is a child and the other one dead with an AGE" */
    private static void worthOfAges() {
        p.fresh();
        p.x.terms(0, 0, 100, 0, 20);
        p.line(0, 20 * Y, -1, ".");
        p.line(2, 60 * Y, 20, ".");
        p.line(2, 60 * Y, 60, ".");
        p.line(2, 60 * Y, -1, ".");
        p.line(3, 60 * Y, 40, ".");
        p.line(2, 20 * Y, 0, ".");
        p.due("at one end of SLACK", p.x.worth(0, 3), 100);
        p.due("at the other end", p.x.worth(6, 0), 100);
        p.due("without an AGE", p.x.worth(0, 9), 0);
        p.due("who paid", p.x.worth(0, 12), 0);
        p.due("AGE 0", p.x.worth(0, 15), 100);
        p.due("the dead and who paid", p.x.worth(3, 12), 0);
    }

    /** "KIN if there are another ROLE of the one's LINE and another one of the other's": not they themselves. */
    private static void kinIsAnotherRole() {
        p.fresh();
        p.x.terms(0, 0, 0, 100, 0);
        p.line(0, 20 * Y, -1, "bob lee, bob lee, ?.");
        p.line(1, 40 * Y, -1, "bob lee, ?.");
        p.line(3, 40 * Y, 5, "bob lee.");
        p.due("a child and a groom, whose ROLE is one with its father", p.x.worth(0, 3), 0);
        p.due("the other way", p.x.worth(3, 0), 0);
        p.due("a LINE of one ROLE has no other", p.x.worth(0, 6), 0);
        p.due("a father and who paid", p.x.worth(1, 6), 0);
        p.fresh();
        p.x.terms(0, 0, 0, 100, 0);
        p.line(0, 20 * Y, -1, "ann lee, bob lee, eve lee.");
        p.line(0, 22 * Y, -1, "tom lee, bob lee, eve lee.");
        p.due("fathers by mothers", p.x.worth(1, 4), 100);
        p.due("mothers by fathers", p.x.worth(2, 5), 100);
        p.x.apart(2, 5);
        p.due("fathers by none: mothers are APART, a father is none of another", p.x.worth(1, 4), 0);
        p.due("they CAN'T be one", p.x.worth(2, 5), -1);
    }

    /** "of both of which all NAMES are known, the families' ALIKE" */
    private static void kinByFamilies() {
        String[] mothers = {"eve lee", "eve fox", "eve l-", "? lee", "eve ?", "?", "ann lee", "ev- l-"};
        int[] want = {100, 0, 100, 0, 0, 0, 0, 100};
        for (int n = 0; n < mothers.length; n++) {
            for (int turn = 0; turn < 2; turn++) {
                p.fresh();
                p.x.terms(0, 0, 0, 100, 0);
                p.line(0, 20 * Y, -1, "?, ?, " + (turn == 0 ? "eve lee" : mothers[n]) + ".");
                p.line(0, 22 * Y, -1, "?, ?, " + (turn == 0 ? mothers[n] : "eve lee") + ".");
                p.due("KIN by " + mothers[n], p.x.worth(1, 4), want[n]);
            }
        }
    }

    /** The LINES may be any of 200, and either one the later. */
    private static void kinOfLateLines() {
        int[] at = {0, 1, 2, 50, 101, 198, 199};
        p.fresh();
        p.x.terms(0, 0, 0, 100, 0);
        for (int n = 0; n < 200; n++) {
            boolean one = false;
            for (int a : at) {
                one = one || a == n;
            }
            if (one) {
                p.line(0, 20 * Y, -1, "?, bob lee, eve lee.");
            } else {
                p.x.line(3, 0, 20 * Y, 20 * Y, 5);
            }
        }
        for (int a : at) {
            for (int b : at) {
                if (a != b) {
                    p.due("fathers of " + a + " and " + b, p.x.worth(a * 3 + 1, b * 3 + 1), 100);
                    p.due("mothers of " + a + " and " + b, p.x.worth(a * 3 + 2, b * 3 + 2), 100);
                }
            }
        }
    }

    /** "another ROLE of the one's LINE": not of the LINES beside it. */
    private static void kinOfOtherLines() {
        p.fresh();
        p.x.terms(0, 0, 0, 100, 0);
        int[] alone = {1, 4, 20, 35, 36};
        for (int n = 0; n < 40; n++) {
            boolean one = false;
            for (int a : alone) {
                one = one || a == n;
            }
            p.line(0, 20 * Y, -1, one ? "?, bob lee, ?." : "?, bob lee, eve lee.");
        }
        for (int a : alone) {
            for (int n = 0; n < 40; n += 3) {
                if (a != n) {
                    p.due("fathers of " + a + " and " + n, p.x.worth(a * 3 + 1, n * 3 + 1), 0);
                    p.due("fathers of " + n + " and " + a, p.x.worth(n * 3 + 1, a * 3 + 1), 0);
                }
            }
        }
    }

    /** "in the order in which they were told .. A SOUL is named by its lowest MENTION." */
    private static void soulsInOrder() {
        p.fresh();
        for (int n = 0; n < 6; n++) {
            p.line(3, n, 5, n == 5 ? "eve ?." : n == 0 ? "ann ?." : "?.");
        }
        p.x.together(15, 12, 0);
        p.x.together(12, 9, 0);
        p.due("the lowest", p.x.soul(15, LAST), 9);
        p.x.together(0, 3, 0);
        p.x.together(3, 9, 0);
        p.due("ann and eve: it WAITS", p.x.waits(LAST, 0), 3);
        p.due("how many", p.x.waits(LAST, -1), 1);
        p.due("as it was", p.x.soul(15, LAST), 9);
        p.x.together(9, 6, 0);
        p.due("the lowest again", p.x.soul(15, LAST), 6);
        int[] want = {6, 9, 12, 15};
        for (int i = 0; i < 4; i++) {
            p.due("its MENTION " + i, p.x.mentions(12, LAST, 1, i), want[i]);
        }
        p.due("how many MENTIONS", p.x.mentions(12, LAST, 0, 0), 4);
        p.refused("one SOUL by others", p.x.together(6, 15, 0), -4);
        p.taken("one that WAITS may be told again", p.x.together(9, 3, 0), 6);
        p.due("it WAITS, too", p.x.waits(LAST, 1), 5);
    }

    /** "then it WAITS (till that is so no more)" */
    private static void waitsTillThatIsSoNoMore() {
        p.fresh();
        p.line(0, 20 * Y, -1, "ann lee.");
        p.line(2, 60 * Y, 43, "ann lee.");
        p.x.together(0, 3, 0);
        p.due("it WAITS by SLACK 2", p.x.waits(LAST, -1), 1);
        p.x.terms(10, 10, 5, 20, 3);
        p.due("not by SLACK 3", p.x.waits(LAST, -1), 0);
        p.due("one SOUL", p.x.soul(3, LAST), 0);
        p.x.terms(10, 10, 5, 20, 2);
        p.due("it WAITS again", p.x.soul(3, LAST), 3);
        p.x.alter(1, 3);
        p.due("not by an AGE of 40", p.x.soul(3, LAST), 0);
        p.x.apart(3, 0);
        p.due("APART", p.x.waits(LAST, -1), 1);
    }

    /** A TOGETHER of two that are one SOUL by then already makes nothing, and does not wait. */
    private static void toldTwiceWhileWaiting() {
        p.fresh();
        p.line(0, 10 * Y, -1, "ann lee.");
        p.line(2, 20 * Y, 5, "ann lee.");
        p.due("REASON 7", p.x.reason(0, 3), 7);
        p.taken("together", p.x.together(0, 3, 30 * Y), 1);
        p.taken("the same, not one SOUL yet", p.x.together(3, 0, 60 * Y), 2);
        p.due("one WAITS by then", p.x.waits(60 * Y - 1, -1), 1);
        p.due("both WAIT", p.x.waits(LAST, -1), 2);
        p.due("the second", p.x.waits(LAST, 1), 1);
        p.taken("SLACK 5", p.x.terms(10, 10, 5, 20, 5), 0);
        p.due("one SOUL", p.x.soul(3, LAST), 0);
        p.due("of two MENTIONS", p.x.mentions(3, LAST, 0, 0), 2);
        p.due("none WAITS, the second has nothing left to do", p.x.waits(LAST, -1), 0);
        p.due("nor a number of it", p.x.waits(LAST, 0), -1);
        p.refused("a third", p.x.together(0, 3, 60), -4);
    }

    /** KIN has no ROLE of two unknown NAMES; children of a SOUL are SOULS, named or not. */
    private static void childrenOfUnknownRoles() {
        p.fresh();
        p.line(0, 40 * Y, -1, "?, bob lee, eve fox.");
        p.line(0, 41 * Y, -1, "? ?, ? lee, eve ?.");
        p.line(0, 42 * Y, -1, "ann ?, ?, ?.");
        p.due("a child without a NAME", p.x.about(1, LAST, LAST, 1), 1);
        p.due("of a mother's, too", p.x.about(2, LAST, LAST, 1), 1);
        p.due("of a father who has one NAME", p.x.about(4, LAST, LAST, 1), 1);
        p.due("of a father without", p.x.about(7, LAST, LAST, 1), 1);
        p.due("ahead of it", p.x.about(1, 40 * Y - 1, LAST, 1), 0);
        p.due("no KIN without a NAME", p.x.kin(1, LAST, 2, 0), -1);
        p.due("a child with one NAME is", p.x.kin(7, LAST, 2, 0), 6);
        p.due("a father with one NAME is", p.x.kin(3, LAST, 0, 0), 4);
        p.due("a mother with one NAME is", p.x.kin(3, LAST, 1, 0), 5);
        p.due("a father without is none", p.x.kin(6, LAST, 0, 0), -1);
        p.due("a mother without is none", p.x.kin(6, LAST, 1, 0), -1);
    }

    /** "the i-th spouse's (3), in the order of LINES": one for each LINE, the same SOUL, too. */
    private static void spousesByLines() {
        p.fresh();
        p.line(1, 60 * Y, -1, "bob lee, eve fox.");
        p.line(1, 50 * Y, -1, "bob lee, ann may.");
        p.line(1, 61 * Y, -1, "bob lee, eve fox.");
        p.x.together(0, 3, 0);
        p.x.together(3, 6, 0);
        p.x.together(1, 7, 100 * Y);
        p.due("the first LINE's", p.x.kin(3, LAST, 3, 0), 1);
        p.due("the second's", p.x.kin(3, LAST, 3, 1), 4);
        p.due("the third's", p.x.kin(3, LAST, 3, 2), 1);
        p.due("as known ahead", p.x.kin(3, 100 * Y - 1, 3, 2), 7);
        p.due("no fourth", p.x.kin(3, LAST, 3, 3), -1);
        p.due("hers", p.x.kin(7, LAST, 3, 0), 0);
        p.due("hers again", p.x.kin(1, LAST, 3, 1), 0);
        p.due("no third of hers", p.x.kin(1, LAST, 3, 2), -1);
    }

    /** "Two MENTIONS are APART, for all DAYS" */
    private static void apartForAllDays() {
        p.fresh();
        p.line(3, 0, 5, "?.");
        p.line(3, 0, 5, "?.");
        p.line(3, 0, 5, "?.");
        p.x.together(0, 3, 0);
        p.x.together(3, 6, 0);
        p.due("one SOUL", p.x.mentions(0, 0, 0, 0), 3);
        p.x.apart(6, 0);
        p.due("on DAY 0", p.x.soul(6, 0), 6);
        p.due("on the last DAY", p.x.soul(6, LAST), 6);
        p.due("the other two stay", p.x.soul(3, 0), 0);
        p.due("APART are these two alone", p.x.reason(3, 6), 0);
    }

    /** "NONE (a ROLE with two unknown NAMES is none)": one NAME is enough, TORN or folded away. */
    private static void kinOfUnknownRoles() {
        String[] roles = {"? lee", "ann ?", "a- ?", "? l-", "x ?", "? x", "?", "? ?"};
        for (int n = 0; n < roles.length; n++) {
            int known = n < 6 ? 1 : 0;
            p.fresh();
            p.spell(0, "x>");
            p.line(0, 20 * Y, -1, roles[n] + "," + roles[n] + "," + roles[n] + ".");
            p.line(1, 20 * Y, -1, roles[n] + "," + roles[n] + ".");
            p.due("father " + roles[n], p.x.kin(0, LAST, 0, 0), known == 1 ? 1 : -1);
            p.due("mother " + roles[n], p.x.kin(0, LAST, 1, 0), known == 1 ? 2 : -1);
            p.due("a father's child " + roles[n], p.x.kin(1, LAST, 2, 0), known == 1 ? 0 : -1);
            p.due("a mother's child " + roles[n], p.x.kin(2, LAST, 2, 0), known == 1 ? 0 : -1);
            p.due("a groom's spouse " + roles[n], p.x.kin(3, LAST, 3, 0), known == 1 ? 4 : -1);
            p.due("a bride's spouse " + roles[n], p.x.kin(4, LAST, 3, 0), known == 1 ? 3 : -1);
            p.due("the SOUL is one all the same", p.x.soul(1, LAST), 1);
        }
    }

    /** "the first into group 0, each other one into a group that there is, or the next one" */
    private static void groupsOfJoinings() {
        p.fresh();
        for (int n = 0; n < 4; n++) {
            p.line(3, n, 5, "?.");
        }
        for (int a = 0; a < 4; a++) {
            for (int b = 0; b < a; b++) {
                p.x.apart(a * 3, b * 3);
            }
            p.x.wish(9 - a * 3);
        }
        for (int i = 0; i < 4; i++) {
            p.due("all APART: WISH " + i, p.x.group(i), i);
        }
        p.due("groups", p.x.best(1, 0), 4);
        p.due("one JOINING", p.x.best(3, 1000), 1);
        p.due("BOUND", p.x.best(2, 0), 0);
        // Those that are one SOUL are of one group, though known on the last DAY alone.
        p.fresh();
        for (int n = 0; n < 3; n++) {
            p.line(3, n, 5, "?.");
            p.x.wish(n * 3);
        }
        p.due("JOININGS of three", p.x.best(3, 0), 5);
        p.x.together(0, 6, LAST);
        p.due("JOININGS of three of which two are one", p.x.best(3, 0), 2);
    }

    /** "RIVALS within n: how many JOININGS have a WORTH not below that less n." */
    private static void rivals() {
        p.fresh();
        p.x.terms(7, 0, 0, 0, 0);
        for (int n = 0; n < 3; n++) {
            p.line(3, n, 5, "ann ?.");
            p.x.wish(n * 3);
        }
        int[][] want = {{0, 1}, {13, 1}, {14, 4}, {20, 4}, {21, 5}, {1000, 5}};
        for (int[] one : want) {
            p.due("RIVALS within " + one[0], p.x.best(3, one[0]), one[1]);
        }
        p.due("WORTH", p.x.best(0, 0), 21);
        p.due("BOUND", p.x.best(2, 0), 21);
        p.x.apart(0, 3);
        p.due("BOUND: of pairs that may be one", p.x.best(2, 0), 14);
        p.due("WORTH", p.x.best(0, 0), 7);
        p.due("RIVALS within 0", p.x.best(3, 0), 2);
        p.due("RIVALS within 6", p.x.best(3, 6), 2);
        p.due("RIVALS within 7", p.x.best(3, 7), 3);
    }

    /** join() by itself: nobody asked for the BEST ahead of it. */
    private static void joinOfTheBest() {
        p.fresh();
        for (int n = 0; n < 4; n++) {
            p.line(3, n, 5, n == 1 || n == 3 ? "ann ?." : "eve ?.");
            p.x.wish(n * 3);
        }
        p.taken("two of two groups", p.x.join(7), 2);
        p.due("0 and 6", p.x.soul(6, 7), 0);
        p.due("3 and 9", p.x.soul(9, 7), 3);
        p.due("not ahead of that DAY", p.x.soul(9, 6), 9);
        p.due("how many", p.x.count(6), 2);
        p.taken("none again", p.x.join(7), 0);
        p.x.clear();
        p.taken("none without WISHES", p.x.join(7), 0);
        p.due("WORTH without WISHES", p.x.best(0, 0), 0);
        p.due("RIVALS without WISHES", p.x.best(3, 0), 1);
    }

    /** Nine of whom all pairs have GIVEN, FAMILY and KIN of 100 each. */
    private static void greatestWorth() {
        p.fresh();
        p.x.terms(100, 100, 100, 100, 20);
        for (int n = 0; n < 9; n++) {
            p.line(0, 20 * Y + n, -1, "?, bob lee, eve lee.");
            p.x.wish(n * 3 + 1);
        }
        p.due("WORTH", p.x.best(0, 0), 36 * 300);
        p.due("BOUND", p.x.best(2, 0), 36 * 300);
        p.due("groups", p.x.best(1, 0), 1);
        p.due("RIVALS within 1000", p.x.best(3, 1000), 1);
        p.taken("join", p.x.join(0), 8);
        p.due("one SOUL of nine", p.x.mentions(25, LAST, 0, 0), 9);
    }

    /** "Without WISHES 0, 0, 0, 1": on a new object, cleared though nothing was wished. */
    private static void clearedAtFirst() {
        p.fresh();
        p.due("clear()", p.x.clear(), 0);
        int[] want = {0, 0, 0, 1};
        for (int what = 0; what < 4; what++) {
            p.due("best(" + what + ", 0)", p.x.best(what, 0), want[what]);
        }
        p.line(3, 0, 5, ".");
        p.x.wish(0);
        p.due("groups of one", p.x.best(1, 0), 1);
        p.due("clear()", p.x.clear(), 1);
        for (int what = 0; what < 4; what++) {
            p.due("best(" + what + ", 1000)", p.x.best(what, 1000), want[what]);
        }
    }

    // ---- SPANS

    private static void span(String what, int mention, int b, int c, int e, int f) {
        int[] want = {b, c, e, f};
        for (int i = 0; i < 4; i++) {
            p.due(what + ": " + "bcef".charAt(i), p.x.span(mention, LAST, i), want[i]);
        }
    }

    /** Each kind of MENTION by itself, in the middle of all DAYS. */
    private static void spanOfOne() {
        int d = 200 * Y + 100;
        p.fresh();
        p.line(0, d, -1, ".");
        p.line(1, d, -1, ".");
        p.line(2, d, -1, ".");
        p.line(2, d, 50, ".");
        p.line(2, d, 0, ".");
        p.line(3, d, 5, ".");
        p.line(5, d, 5, ".");
        span("a child", 0, d, d, d, d + 110 * Y);
        span("a father", 1, d - 111 * Y, d - 14 * Y, d - Y, d + 96 * Y);
        span("a mother", 2, d - 50 * Y, d - 14 * Y, d, d + 96 * Y);
        span("a groom", 3, d - 110 * Y, d - 14 * Y, d, d + 96 * Y);
        span("a bride", 4, d - 110 * Y, d - 14 * Y, d, d + 96 * Y);
        span("the dead", 6, d - 110 * Y, d, d, d);
        span("the dead of 50", 9, 148 * Y, 152 * Y + 365, d, d);
        span("the dead of 0", 12, 198 * Y, d, d, d);
        span("who paid", 15, d - 110 * Y, d, d, d + 110 * Y);
        span("who is sent", 18, d - 110 * Y, d, d, d + 110 * Y);
        p.x.terms(10, 10, 5, 20, 20);
        span("the dead of 50, SLACK 20", 9, 130 * Y, 170 * Y + 365, d, d);
        p.x.terms(10, 10, 5, 20, 0);
        span("the dead of 50, SLACK 0", 9, 150 * Y, 150 * Y + 365, d, d);
    }

    /** "f at most c and 110 times 366, b at least e less 110 times 366", and "(b may come behind c so, e behind f.)" */
    private static void spanOfMore() {
        p.fresh();
        int d = 100 * Y;
        p.line(3, d, 5, ".");
        p.line(3, d + 110 * Y, 5, ".");
        p.line(3, d + 111 * Y, 5, ".");
        p.x.together(0, 3, 0);
        span("110 YEARS", 0, d, d, d + 110 * Y, d + 110 * Y);
        p.x.together(0, 6, 0);
        span("111 YEARS: b behind c, e behind f", 0, d + Y, d, d + 111 * Y, d + 110 * Y);
        p.fresh();
        p.line(0, d, -1, ".");
        p.line(3, d - 50 * Y, 5, ".");
        p.line(3, d - 50 * Y - 1, 5, ".");
        p.x.together(2, 3, 0);
        span("a mother of 50", 2, d - 50 * Y, d - 50 * Y, d, d + 60 * Y);
        p.x.together(2, 6, 0);
        span("a mother of more: b behind c", 2, d - 50 * Y, d - 50 * Y - 1, d, d + 60 * Y - 1);
    }

    /** "then what is below 0 is 0, what is above 146,399 is that" */
    private static void spanBelowAndAbove() {
        p.fresh();
        p.line(0, 0, -1, ".");
        p.line(2, 0, 120, ".");
        p.line(2, 0, 118, ".");
        p.line(2, 2 * Y, 0, ".");
        p.line(0, LAST, -1, ".");
        p.line(2, LAST, 0, ".");
        p.line(2, LAST, 120, ".");
        p.line(3, LAST - 110 * Y, 5, ".");
        p.line(3, LAST - 110 * Y - 1, 5, ".");
        span("a child on DAY 0", 0, 0, 0, 0, 110 * Y);
        span("a father on DAY 0: c is -14 YEARS when f is cut", 1, 0, 0, 0, 96 * Y);
        span("a mother on DAY 0", 2, 0, 0, 0, 96 * Y);
        span("the dead of 120 on DAY 0: f is below 0, too", 3, 0, 0, 0, 0);
        span("the dead of 118 on DAY 0", 6, 0, 0, 0, 0);
        span("the dead of 0 in YEAR 2", 9, 0, 2 * Y, 2 * Y, 2 * Y);
        span("a child on the last DAY", 12, LAST, LAST, LAST, LAST);
        span("the dead of 0 on the last DAY", 15, 397 * Y, LAST, LAST, LAST);
        span("the dead of 120 on the last DAY: b by e", 18, LAST - 110 * Y, 281 * Y + 365, LAST, 281 * Y + 365 + 110 * Y);
        span("who paid 110 YEARS ahead of the last DAY", 21, LAST - 220 * Y, LAST - 110 * Y, LAST - 110 * Y, LAST);
        span("a DAY ahead of that", 24, LAST - 220 * Y - 1, LAST - 110 * Y - 1, LAST - 110 * Y - 1, LAST - 1);
    }

    /** An AGE below 0, as it may be when ALTERED: BORN behind all DAYS. */
    private static void spanOfAlteredAges() {
        p.fresh();
        p.line(2, 300 * Y, -1, ".");
        p.line(2, 300 * Y, 120, ".");
        p.x.alter(0, 255);
        p.due("-256", p.x.of(0, 3), -256);
        span("b above the last DAY is that", 0, LAST, 300 * Y, 300 * Y, 300 * Y);
        p.x.alter(1, 135);
        p.due("255", p.x.of(1, 3), 255);
        span("of 255", 3, 190 * Y, 47 * Y + 365, 300 * Y, 157 * Y + 365);
    }

    // ---- PAGES

    /** "(b not ahead of from, c not behind to, b not behind c)" */
    private static void leastOfBirths() {
        p.fresh();
        int d = 100 * Y;
        p.line(0, d, -1, ".");
        p.line(3, d - 50 * Y, 5, ".");
        p.line(3, d - 50 * Y - 1, 5, ".");
        p.x.together(2, 3, 1000);
        p.x.together(2, 6, d + 5);
        int at = d - 50 * Y;
        p.due("b as c, both as from and to", p.x.fill(0, at, at, d, 0), 1);
        p.due("from behind b", p.x.fill(0, at + 1, at + 1, d, 0), 0);
        p.due("to ahead of c", p.x.fill(0, at - 1, at - 1, d, 0), 0);
        p.due("b behind c", p.x.fill(0, at - 1, at, d + 5, 0), 0);
        p.fresh();
        p.line(2, 60 * Y, 20, ".");
        p.due("just within", p.x.fill(0, 38 * Y, 42 * Y + 365, LAST, 0), 1);
        p.due("a DAY too late", p.x.fill(0, 38 * Y + 1, 42 * Y + 365, LAST, 0), 0);
        p.due("a DAY too early", p.x.fill(0, 38 * Y, 42 * Y + 364, LAST, 0), 0);
        p.due("all DAYS", p.x.fill(0, 0, LAST, LAST, 0), 1);
        p.due("no SOUL is known", p.x.fill(0, 0, LAST, 60 * Y - 1, 0), 0);
        p.line(0, 40 * Y, -1, "?,?,?.");
        p.due("a child has its birth; its father and mother are two more", p.x.fill(0, 0, LAST, LAST, 0), 3);
        p.x.together(0, 3, LAST);
        p.due("the dead has one now", p.x.fill(0, 0, LAST, LAST, 0), 2);
        for (int book = 1; book < 6; book++) {
            p.due("LEAST of BOOK " + book, p.x.fill(book, 0, LAST, LAST, 0), book == 2 ? 2 : 0);
        }
    }

    private static void leastOfBurials() {
        p.fresh();
        int d = 100 * Y;
        p.line(3, d, 5, ".");
        p.line(3, d + 110 * Y, 5, ".");
        p.line(3, d + 110 * Y + 1, 5, ".");
        p.x.together(0, 3, 0);
        p.x.together(0, 6, LAST);
        int at = d + 110 * Y;
        p.due("e as f, both as from and to", p.x.fill(2, at, at, at, 0), 1);
        p.due("from behind e", p.x.fill(2, at + 1, at + 1, at, 0), 0);
        p.due("to ahead of f", p.x.fill(2, at - 1, at - 1, at, 0), 0);
        p.due("e behind f", p.x.fill(2, at, at + 1, LAST, 0), 0);
        p.fresh();
        p.line(3, d, 5, ".");
        p.due("just within", p.x.fill(2, d, d + 110 * Y, LAST, 0), 1);
        p.due("a DAY too late", p.x.fill(2, d + 1, d + 110 * Y, LAST, 0), 0);
        p.due("a DAY too early", p.x.fill(2, d, d + 110 * Y - 1, LAST, 0), 0);
        p.line(2, d + 5, -1, ".");
        p.due("the dead is none", p.x.fill(2, 0, LAST, LAST, 0), 1);
        p.x.together(0, 3, LAST);
        p.due("nor is one with it", p.x.fill(2, 0, LAST, LAST, 0), 0);
    }

    /** "the greatest number of LINES of that BOOK known within so many DAYS from a LINE's (of that BOOK) DAY on" */
    private static void mostOfDays() {
        p.fresh();
        int[] days = {100, 109, 110, 119, 129};
        for (int day : days) {
            p.line(3, 0, day, day == 110 ? 500 : 0, 5, ".");
        }
        p.line(4, 105, 5, ".");
        int[][] want = {{1, 1}, {2, 2}, {9, 2}, {10, 2}, {11, 3}, {19, 3}, {20, 4}, {29, 4}, {30, 5}, {LAST + 1, 5}};
        for (int[] one : want) {
            p.due(one[0] + " DAYS", p.x.fill(3, 0, one[0] - 1, 500, 1), one[1]);
        }
        p.due("10 DAYS, one not known", p.x.fill(3, 1000, 1009, 499, 1), 2);
        p.due("another BOOK", p.x.fill(4, 1000, 1009, 499, 1), 1);
        p.due("0 without any", p.x.fill(5, 1000, 1009, 499, 1), 0);
        // A LINE not known begins no DAYS: from 110 on there would be two within ten.
        p.fresh();
        p.line(3, 0, 110, 500, 5, ".");
        p.line(3, 0, 115, 0, 5, ".");
        p.line(3, 0, 119, 0, 5, ".");
        p.due("known", p.x.fill(3, 0, 9, 500, 1), 3);
        p.due("not known", p.x.fill(3, 0, 9, 499, 1), 2);
        p.due("LEAST at least: all that paid, of burials", p.x.fill(2, 0, LAST, 499, 1), 2);
    }

    /** "none of which is TORN as known": the DAY just ahead and the one just behind don't matter. */
    private static void mostOfPages() {
        int[][] pages = {{99, 99, 2}, {100, 100, 1}, {109, 109, 0}, {110, 110, 2}, {0, 99, 2}, {0, 100, 1}, {110, LAST, 2},
            {104, 104, 1}, {109, LAST, 0}, {0, LAST, 0}};
        for (int[] one : pages) {
            p.fresh();
            p.line(3, 0, 100, 0, 5, ".");
            p.line(3, 0, 105, 0, 5, ".");
            p.x.torn(3, one[0], one[1], 50);
            p.x.torn(4, 0, LAST, 0);
            p.due("TORN " + one[0] + " .. " + one[1], p.x.fill(3, 0, 9, 50, 1), one[2]);
            p.due("TORN as known a DAY ahead", p.x.fill(3, 0, 9, 49, 1), 2);
        }
    }

    /** No LINES, no SOULS: 0 of all, and so behind BACK to that. */
    private static void filledOfAnEmptyChest() {
        p.fresh();
        p.x.image(0);
        for (int turn = 0; turn < 2; turn++) {
            for (int book = 0; book < 6; book++) {
                for (int what = 0; what < 3; what++) {
                    p.due("fill of BOOK " + book + ", what " + what, p.x.fill(book, 0, LAST, LAST, what), 0);
                    p.due("of some DAYS", p.x.fill(book, 10, 200 * Y, LAST, what), 0);
                }
            }
            p.line(3, 100, 5, ".");
            p.due("one who paid and died", p.x.fill(2, 0, LAST, LAST, 0), 1);
            p.due("one who paid and was born", p.x.fill(0, 0, LAST, LAST, 0), 1);
            p.x.back(0);
        }
    }

    private static int guessed(int from, int to) {
        return p.x.fill(4, from, to, LAST, 2);
    }

    /** "those of the 3660 DAYS ahead and of the 3660 behind (as far as there are)" */
    private static void guessedDays() {
        p.fresh();
        p.line(4, 10, 5, ".");
        // 11 DAYS ahead (0 .. 10), and as many behind as there are.
        p.due("none behind", guessed(11, LAST), ((LAST - 10) * 2 + 11) / 22);
        p.due("one behind", guessed(11, LAST - 1), ((LAST - 11) * 2 + 12) / 24);
        p.due("3660 behind", guessed(11, LAST - 3660), ((LAST - 3670) * 2 + 3671) / 7342);
        p.due("3661 behind: 3660 of them", guessed(11, LAST - 3661), ((LAST - 3671) * 2 + 3671) / 7342);
        p.fresh();
        p.line(4, LAST - 10, 5, ".");
        p.due("none ahead", guessed(0, LAST - 11), ((LAST - 10) * 2 + 11) / 22);
        p.due("one ahead", guessed(1, LAST - 11), ((LAST - 11) * 2 + 12) / 24);
        p.due("3660 ahead", guessed(3660, LAST - 11), ((LAST - 3670) * 2 + 3671) / 7342);
        p.due("3661 ahead: 3660 of them", guessed(3661, LAST - 11), ((LAST - 3671) * 2 + 3671) / 7342);
        p.due("0 without DAYS", guessed(0, LAST), 0);
    }

    /** LINES of the DAYS from .. to are none, nor are those beyond the 3660. */
    private static void guessedLines() {
        int from = 100 * Y;
        int to = from + 7319;
        int[][] days = {{from - 3661, 0}, {from - 3660, 1}, {from - 1, 1}, {from, 0}, {to, 0}, {to + 1, 1}, {to + 3660, 1},
            {to + 3661, 0}, {from + 100, 0}};
        for (int[] one : days) {
            p.fresh();
            p.line(4, 0, one[0], LAST, 5, ".");
            p.line(3, 0, from - 1, LAST, 5, ".");
            p.due("a LINE on DAY " + one[0], guessed(from, to), one[1]);
            p.due("not known", p.x.fill(4, from, to, LAST - 1, 2), 0);
        }
    }

    /** "that aren't TORN as known": pages at both ends of those DAYS, within them, over one another, and beyond. */
    private static void guessedPages() {
        int from = 100 * Y;
        int to = from + 99999;
        int[][] pages = {{from - 3660, from - 3660, 1}, {from - 1, from - 1, 1}, {from - 9000, from - 3660, 1},
            {from - 9000, from - 3661, 0}, {from, to, 0}, {from - 1, to, 1}, {from, to + 1, 1}, {to + 1, to + 1, 1},
            {to + 3660, to + 3660, 1}, {to + 3660, LAST, 1}, {to + 3661, LAST, 0}, {from - 3660, from - 2, 3659},
            {from - 3659, from - 1, 3659}, {to + 2, to + 3660, 3659}, {to + 1, to + 3659, 3659}, {from - 3000, from - 2001, 1000}};
        for (int[] one : pages) {
            p.fresh();
            boolean early = one[0] <= from - 2500 && one[1] >= from - 2500;
            p.line(4, early ? to + 1800 : from - 2500, 5, ".");
            p.x.torn(4, one[0], one[1], LAST);
            int whole = 7320 - one[2];
            p.due("TORN " + one[0] + " .. " + one[1], guessed(from, to), (2 * 100000 + whole) / (2 * whole));
            p.due("not known", p.x.fill(4, from, to, LAST - 1, 2), (2 * 100000 + 7320) / (2 * 7320));
            p.x.torn(4, one[0], one[1], 0);
            p.due("TORN twice is TORN once", guessed(from, to), (2 * 100000 + whole) / (2 * whole));
        }
        p.fresh();
        p.line(4, from - 2500, 5, ".");
        p.x.torn(4, from - 2500, from - 2500, LAST);
        p.due("a LINE of a DAY that is TORN is none", guessed(from, to), 0);
        p.due("not known", p.x.fill(4, from, to, LAST - 1, 2), 14);
    }

    /** "rounded (halves up; 0 without)" */
    private static void guessedRounded() {
        p.fresh();
        int from = 100 * Y;
        p.line(4, from - 1, 5, ".");
        int[][] want = {{1, 0}, {3659, 0}, {3660, 1}, {3661, 1}, {7320, 1}, {10979, 1}, {10980, 2}, {10981, 2}};
        for (int[] one : want) {
            p.due(one[0] + " DAYS of 7320", guessed(from, from + one[0] - 1), one[1]);
        }
        p.due("without LINES", p.x.fill(3, from, from + 10979, LAST, 2), 0);
    }
}
