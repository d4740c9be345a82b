/** Promises 20 to 24: WISHES, the BEST JOINING, RIVALS, and joining by it. */
public final class JoiningTest {
    private static final Probe p = new Probe();
    private static final int Y = 366;

    public static void main(String[] args) {
        wishes();
        noWishes();
        bestOfThree();
        fewestGroupsThenFirst();
        fewerGroupsLater();
        tied();
        nine();
        joinTells();
        joinRoom();
        p.finish("JoiningTest");
    }

    private static void wishes() {
        p.fresh();
        for (int n = 0; n < 10; n++) {
            p.line(3, n, 0, "ann lee.");
        }
        p.refused("no MENTION", p.x.wish(30), -2);
        p.refused("no MENTION", p.x.wish(1), -2);
        p.refused("no MENTION", p.x.wish(-1), -2);
        for (int n = 0; n < 9; n++) {
            p.taken("wish " + n, p.x.wish(n * 3), n + 1);
        }
        p.refused("twice ahead of no room", p.x.wish(0), -4);
        p.refused("the tenth", p.x.wish(27), -5);
        p.refused("-2 first", p.x.wish(28), -2);
        p.due("count(7)", p.x.count(7), 9);
        p.due("clear()", p.x.clear(), 9);
        p.due("status() is wish()'s", p.x.status(), -2);
        p.due("count(7)", p.x.count(7), 0);
        p.due("clear()", p.x.clear(), 0);
        p.taken("wish again", p.x.wish(27), 1);
    }

    private static void noWishes() {
        p.fresh();
        p.due("WORTH", p.x.best(0, 0), 0);
        p.due("groups", p.x.best(1, 0), 0);
        p.due("BOUND", p.x.best(2, 0), 0);
        p.due("RIVALS", p.x.best(3, 0), 1);
        p.due("RIVALS", p.x.best(3, 1000), 1);
        p.due("n -1", p.x.best(3, -1), -1);
        p.due("n 1001", p.x.best(3, 1001), -1);
        for (int n : new int[] {Integer.MIN_VALUE, -1, 1001, Integer.MAX_VALUE}) {
            p.due("n is of RIVALS alone: WORTH", p.x.best(0, n), 0);
            p.due("n is of RIVALS alone: groups", p.x.best(1, n), 0);
            p.due("n is of RIVALS alone: BOUND", p.x.best(2, n), 0);
            p.due("n is of RIVALS alone: what 4", p.x.best(4, n), -1);
        }
        p.due("what -1", p.x.best(-1, 0), -1);
        p.due("what 4", p.x.best(4, 0), -1);
        p.due("group(0)", p.x.group(0), -1);
        p.taken("join", p.x.join(0), 0);
        p.refused("join(-1)", p.x.join(-1), -1);
        p.refused("join(146400)", p.x.join(146400), -1);
    }

    private static void best(String what, int worth, int groups, int bound, int rivals) {
        p.due(what + ": WORTH", p.x.best(0, -1), worth);
        p.due(what + ": groups", p.x.best(1, 1001), groups);
        p.due(what + ": BOUND", p.x.best(2, -7), bound);
        p.due(what + ": RIVALS", p.x.best(3, 0), rivals);
    }

    private static void groups(String what, int... want) {
        for (int i = 0; i < want.length; i++) {
            p.due(what + ": group(" + i + ")", p.x.group(i), want[i]);
        }
        p.due(what + ": behind", p.x.group(want.length), -1);
        p.due(what + ": ahead", p.x.group(-1), -1);
    }

    private static void bestOfThree() {
        // A child, and two dead who can't be one: 25 with the one whose AGE fits, 20 with the other.
        p.fresh();
        p.line(0, 10 * Y, -1, "ann lee.");
        p.line(2, 50 * Y, -1, "ann lee.");
        p.line(2, 50 * Y, 40, "ann lee.");
        p.x.wish(0);
        p.x.wish(3);
        p.x.wish(6);
        best("three", 25, 2, 45, 1);
        groups("three", 0, 1, 0);
        p.due("within 4", p.x.best(3, 4), 1);
        p.due("within 5", p.x.best(3, 5), 2);
        p.due("within 24", p.x.best(3, 24), 2);
        p.due("within 25", p.x.best(3, 25), 3);
        p.due("within 1000", p.x.best(3, 1000), 3);
        p.x.terms(10, 10, 0, 20, 2);
        best("alike, the first as rows", 20, 2, 40, 2);
        groups("alike", 0, 0, 1);
        p.x.apart(0, 3);
        best("one is APART", 20, 2, 20, 1);
        groups("one is APART", 0, 1, 0);
        p.x.clear();
        p.x.wish(6);
        best("one alone", 0, 1, 0, 1);
        groups("one alone", 0);
    }

    private static void fewestGroupsThenFirst() {
        p.fresh();
        for (int n = 0; n < 3; n++) {
            p.line(3, n, 0, "?.");
            p.x.wish(n * 3);
        }
        best("all are worth nothing: fewest groups", 0, 1, 0, 5);
        groups("fewest", 0, 0, 0);
        p.x.apart(0, 3);
        best("0 and 1 APART", 0, 2, 0, 3);
        groups("0 and 1 APART: 0 1 0 is ahead of 0 1 1", 0, 1, 0);
        p.x.apart(0, 6);
        best("0 APART from both", 0, 2, 0, 2);
        groups("0 APART from both", 0, 1, 1);
        p.x.apart(3, 6);
        best("all APART", 0, 3, 0, 1);
        groups("all APART", 0, 1, 2);
        // A smaller WORTH with fewer groups is not better.
        p.fresh();
        p.line(3, 0, 0, "ann lee.");
        p.line(3, 0, 0, "? lee.");
        p.line(3, 0, 0, "eve lee.");
        p.x.wish(0);
        p.x.wish(3);
        p.x.wish(6);
        best("the middle one with either", 10, 2, 20, 2);
        groups("the middle one with either", 0, 0, 1);
    }

    /** The one of fewer groups comes later: 0 1 0 1 behind 0 0 1 2. */
    private static void fewerGroupsLater() {
        for (int turn = 0; turn < 2; turn++) {
            p.fresh();
            for (int n = 0; n < 4; n++) {
                p.line(3, n, 0, turn == 0 && n < 2 ? "ann ?." : "?.");
                p.x.wish(n * 3);
            }
            p.x.apart(6, 3);
            p.x.apart(9, 0);
            p.x.apart(6, 9);
            if (turn == 0) {
                best("a greater WORTH is first", 10, 3, 10, 1);
                groups("a greater WORTH is first", 0, 0, 1, 2);
            } else {
                best("fewer groups of alike ones", 0, 2, 0, 5);
                groups("fewer groups of alike ones", 0, 1, 0, 1);
            }
        }
    }

    private static void tied() {
        p.fresh();
        for (int n = 0; n < 3; n++) {
            p.line(3, n, 0, "?.");
            p.x.wish(n * 3);
        }
        p.x.together(6, 0, 146399);
        best("one SOUL: one group", 0, 1, 0, 2);
        groups("one SOUL", 0, 0, 0);
        p.x.apart(3, 6);
        best("and one that CAN'T be with it", 0, 2, 0, 1);
        groups("and one that CAN'T be with it", 0, 1, 0);
        // One SOUL by a MENTION that isn't wished.
        p.fresh();
        for (int n = 0; n < 4; n++) {
            p.line(3, n, 0, "?.");
        }
        p.x.together(0, 9, 5);
        p.x.together(9, 3, 5);
        p.x.wish(3);
        p.x.wish(6);
        p.x.wish(0);
        p.due("RIVALS", p.x.best(3, 0), 2);
        p.due("join tells 6 with 3, and 0 with 6 that is ahead of it", p.x.join(7), 2);
        p.due("count(6)", p.x.count(6), 4);
        p.due("one SOUL all", p.x.mentions(0, 7, 0, 0), 4);
        p.due("not ahead of it", p.x.mentions(0, 6, 0, 0), 3);
    }

    private static void nine() {
        p.fresh();
        p.x.terms(100, 100, 100, 100, 20);
        for (int n = 0; n < 9; n++) {
            p.line(3, n, 0, "ann lee.");
            p.x.wish(n * 3);
        }
        best("nine alike", 36 * 200, 1, 36 * 200, 1);
        p.due("RIVALS within 1000", p.x.best(3, 1000), 1);
        p.x.terms(1, 0, 0, 0, 0);
        p.due("all 21147 JOININGS", p.x.best(3, 1000), 21147);
        p.due("one apart from eight costs 8", p.x.best(3, 8), 10);
        for (int n = 1; n < 9; n++) {
            p.x.apart(0, n * 3);
        }
        best("one is APART from all", 28, 2, 28, 1);
        groups("one is APART from all", 0, 1, 1, 1, 1, 1, 1, 1, 1);
        p.due("JOININGS of eight", p.x.best(3, 1000), 4140);
    }

    private static void joinTells() {
        p.fresh();
        for (int n = 0; n < 5; n++) {
            p.line(3, n, 0, "ann lee.");
        }
        p.x.apart(0, 3);
        p.x.wish(12);
        p.x.wish(3);
        p.x.wish(0);
        p.x.wish(9);
        groups("ahead of join", 0, 0, 1, 0);
        p.taken("join", p.x.join(100), 2);
        p.due("3 with 12", p.x.soul(12, 100), 3);
        p.due("9 with 3", p.x.soul(9, 100), 3);
        p.due("0 alone", p.x.soul(0, 100), 0);
        p.due("known from that DAY on", p.x.soul(12, 99), 12);
        p.taken("join again", p.x.join(50), 0);
        p.due("count(6)", p.x.count(6), 2);
        p.due("the WISHES stay", p.x.count(7), 4);
        p.x.wish(6);
        p.taken("one more", p.x.join(100), 1);
        p.due("6 with 9", p.x.soul(6, 100), 3);
    }

    private static void joinRoom() {
        p.fresh();
        for (int n = 0; n < 4; n++) {
            p.line(3, n, 0, "?.");
        }
        p.x.apart(0, 3);
        for (int n = 0; n < 199; n++) {
            p.x.together(0, 3, 0);
        }
        p.x.wish(3);
        p.x.wish(6);
        p.x.wish(9);
        p.refused("two more than there is room for", p.x.join(0), -5);
        p.refused("-1 first", p.x.join(-1), -1);
        p.due("nothing is told", p.x.count(6), 199);
        p.due("nothing is told", p.x.soul(6, 10), 6);
        p.x.clear();
        p.x.wish(3);
        p.x.wish(6);
        p.taken("just one", p.x.join(0), 1);
        p.due("told", p.x.soul(6, 10), 3);
        p.taken("none to tell: there is room", p.x.join(0), 0);
    }
}
