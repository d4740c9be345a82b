/**
 * Each call that can be REFUSED, each number that it is given, at both ends: the first that is not taken, and those far
 * away; the answer, status(), and that nothing else has changed. The last ones that are taken are in BoundsTest.
 */
public final class RefusedTest {
    private static final Probe p = new Probe();
    private static final Twin twin = new Twin(p);
    private static final int MIN = Integer.MIN_VALUE;
    private static final int MAX = Integer.MAX_VALUE;
    private static final int[] NO_DAYS = {-1, 146400, MIN, MAX};
    private static final int[] NO_YEARS = {-1, 400, MIN, MAX};
    // LINES 0 .. 6 are told in the scene: 5 and 7 are ROLES that BOOKS of two and one have not.
    private static final int[] NO_MENTIONS = {-1, 5, 7, 8, 21, 600, MIN, MAX};
    private static final int[] NO_LINES = {-1, 7, 200, MIN, MAX};
    private static final int[] NO_HOLDINGS = {-1, 4, 40, MIN, MAX};

    public static void main(String[] args) {
        line();
        spell();
        text();
        terms();
        apart();
        together();
        wish();
        join();
        torn();
        fact();
        appeal();
        value();
        split();
        hold();
        levy();
        pay();
        entry();
        close();
        acres();
        price();
        seal();
        alter();
        image();
        back();
        p.finish("RefusedTest");
    }

    /** Each of some numbers instead of one of a good call's. */
    private static void wrong(String call, int why, int[] good, int at, int... numbers) {
        for (int number : numbers) {
            int[] bad = good.clone();
            bad[at] = number;
            twin.refused(call, why, good, bad);
        }
    }

    /** "-1; -5 (both ahead of reading it); -6." */
    private static void line() {
        int[] good = {2, 0, 0, 0, 5};
        unread("line", good, 0, -1, 6, MIN, MAX);
        unread("line", good, 1, -1, 16, MIN, MAX);
        unread("line", good, 2, NO_DAYS);
        unread("line", good, 3, NO_DAYS);
        unread("line", new int[] {0, 0, 0, 0, -1}, 4, -2, 0, 1, MIN, MAX);
        unread("line", new int[] {1, 0, 0, 0, -1}, 4, -2, 0, 1, MIN, MAX);
        unread("line", new int[] {2, 0, 0, 0, -1}, 4, -2, 121, MIN, MAX);
        unread("line", new int[] {3, 0, 0, 0, 0}, 4, -1, 100001, MIN, MAX);
        unread("line", new int[] {4, 0, 0, 0, 0}, 4, -1, 100001, MIN, MAX);
        unread("line", new int[] {5, 0, 0, 0, 1}, 4, -1, 0, 12, MIN, MAX);
        twin.refusedTape("line", "ann lee, bob lee.", -6, 7, good);
        twin.refusedTape("line", "ann.", -6, 3, good);
    }

    private static void unread(String call, int[] good, int at, int... numbers) {
        for (int number : numbers) {
            int[] bad = good.clone();
            bad[at] = number;
            twin.refusedTape(call, "ann lee.", -1, 0, bad);
        }
    }

    /** "-1 (ahead of reading it); -6: they stay." */
    private static void spell() {
        unread("spell", new int[] {1}, 0, -1, 16, MIN, MAX);
        twin.refusedTape("spell", "a>b,c", -6, 5, 1);
        twin.refusedTape("spell", "a>b,cdef>g", -6, 4, 1);
        twin.refusedTape("spell", "a>b;", -6, 3, 15);
    }

    /** "-1; -5 (both ahead of reading it); -6." */
    private static void text() {
        int[] good = {0, 0, 0};
        unread("text", good, 0, -1, 2, MIN, MAX);
        unread("text", good, 1, NO_DAYS);
        unread("text", good, 2, NO_DAYS);
        twin.refusedTape("text", "badge;", -6, 6, good);
        twin.refusedTape("text", "seat 100001", -6, 5, good);
    }

    private static void terms() {
        int[] good = {1, 2, 3, 4, 5};
        for (int at = 0; at < 4; at++) {
            wrong("terms", -1, good, at, -1, 101, MIN, MAX);
        }
        wrong("terms", -1, good, 4, -1, 21, MIN, MAX);
    }

    /** "-2; -3 one with itself; -5 (60)." */
    private static void apart() {
        wrong("apart", -2, new int[] {0, 6}, 0, NO_MENTIONS);
        wrong("apart", -2, new int[] {0, 6}, 1, NO_MENTIONS);
        twin.refused("apart", -3, new int[] {0, 6}, 0, 0);
        twin.refused("apart", -3, new int[] {0, 6}, 20, 20);
        twin.refused("apart", -2, new int[] {0, 6}, 21, 21);
    }

    private static void together() {
        int[] good = {2, 4, 0};
        wrong("together", -1, good, 2, NO_DAYS);
        wrong("together", -2, good, 0, NO_MENTIONS);
        wrong("together", -2, good, 1, NO_MENTIONS);
        // One SOUL by all that was ever told, not yet by each DAY.
        twin.refused("together", -4, good, 6, 12, 0);
        twin.refused("together", -4, good, 0, 6, 249);
        twin.refused("together", -4, good, 3, 1, 146399);
        twin.refused("together", -4, good, 20, 20, 0);
    }

    private static void wish() {
        wrong("wish", -2, new int[] {9}, 0, NO_MENTIONS);
        twin.refused("wish", -4, new int[] {9}, 0);
        twin.refused("wish", -4, new int[] {9}, 6);
    }

    private static void join() {
        wrong("join", -1, new int[] {7}, 0, NO_DAYS);
    }

    private static void torn() {
        int[] good = {3, 30 * 366 - 5, 30 * 366 + 5, 0};
        wrong("torn", -1, good, 0, -1, 6, MIN, MAX);
        wrong("torn", -1, good, 1, NO_DAYS);
        wrong("torn", -1, good, 2, NO_DAYS);
        wrong("torn", -1, good, 3, NO_DAYS);
        wrong("torn", -1, good, 2, 30 * 366 - 6);
        wrong("torn", -1, good, 1, 30 * 366 + 6);
    }

    /** "-1 (to ahead of from, too); -2; -5." */
    private static void fact() {
        int[] good = {0, 2, 9, 10, 20, 0};
        wrong("fact", -2, good, 0, NO_MENTIONS);
        wrong("fact", -1, good, 1, -1, 5, MIN, MAX);
        wrong("fact", -1, good, 2, -1, 12, MIN, MAX);
        wrong("fact", -1, good, 3, NO_DAYS);
        wrong("fact", -1, good, 4, NO_DAYS);
        wrong("fact", -1, good, 5, NO_DAYS);
        wrong("fact", -1, good, 3, 21);
        wrong("fact", -1, good, 4, 9);
    }

    /** "-1 the DAYS; -2 no such LINE, or no ORDER; -1 a DAY ahead of the ORDER's; -5." */
    private static void appeal() {
        int[] good = {5, 31 * 366 + 10, 0};
        wrong("appeal", -2, good, 0, NO_LINES);
        wrong("appeal", -2, good, 0, 0, 1, 2, 3, 4, 6);
        wrong("appeal", -1, good, 1, NO_DAYS);
        wrong("appeal", -1, good, 2, NO_DAYS);
        wrong("appeal", -1, good, 1, 0, 31 * 366 + 9);
    }

    private static void value() {
        int[] good = {0, 77, 0, 0};
        wrong("value", -2, good, 0, NO_HOLDINGS);
        wrong("value", -1, good, 1, -1, 10001, MIN, MAX);
        wrong("value", -1, good, 2, NO_DAYS);
        wrong("value", -1, good, 3, NO_DAYS);
        wrong("value", -3, good, 0, 3);
    }

    /** "a / b of another one (1 .. 100 each, a below b)" */
    private static void split() {
        int[] good = {0, 1, 2, 0, 0};
        wrong("split", -2, good, 0, NO_HOLDINGS);
        wrong("split", -1, good, 1, 0, -1, 2, 3, 101, MIN, MAX);
        wrong("split", -1, good, 2, 1, 0, -1, 101, MIN, MAX);
        wrong("split", -1, good, 3, NO_DAYS);
        wrong("split", -1, good, 4, NO_DAYS);
        twin.refused("split", -1, good, 0, 100, 100, 0, 0);
        twin.refused("split", -1, good, 0, 100, 101, 0, 0);
        twin.refused("split", -1, good, 0, 0, 1, 0, 0);
    }

    /** "-1; -2 HOLDING, MENTION; -5." NONE is no MENTION, but nobody. */
    private static void hold() {
        int[] good = {0, 3, 0, 0};
        wrong("hold", -2, good, 0, NO_HOLDINGS);
        wrong("hold", -2, good, 1, -2, 5, 7, 8, 21, 600, MIN, MAX);
        wrong("hold", -1, good, 2, NO_DAYS);
        wrong("hold", -1, good, 3, NO_DAYS);
    }

    private static void levy() {
        int[] good = {0, 30, 100, 0};
        wrong("levy", -1, good, 0, -1, 3, MIN, MAX);
        wrong("levy", -1, good, 1, NO_YEARS);
        wrong("levy", -1, good, 2, -1, 1000001, MIN, MAX);
        wrong("levy", -1, good, 3, NO_DAYS);
    }

    /** "-1 pence (1 .. 1,000,000), DAYS; -2; -5." */
    private static void pay() {
        int[] good = {0, 0, 100, 0, 0};
        wrong("pay", -2, good, 0, -1, 2, 40, MIN, MAX);
        wrong("pay", -2, good, 1, NO_HOLDINGS);
        wrong("pay", -1, good, 2, 0, -1, 1000001, MIN, MAX);
        wrong("pay", -1, good, 3, NO_DAYS);
        wrong("pay", -1, good, 4, NO_DAYS);
    }

    private static void entry() {
        int[] good = {2, 31, 100, 0};
        wrong("entry", -1, good, 0, -1, 4, MIN, MAX);
        wrong("entry", -1, good, 1, NO_YEARS);
        wrong("entry", -1, good, 2, -1000001, 1000001, MIN, MAX);
        wrong("entry", -1, good, 3, NO_DAYS);
    }

    /** OFFICE 2 has YEAR 30 CLOSED with 500 on DAY 30; an ENTRY of -70 makes 430 of YEAR 31. */
    private static void close() {
        int[] good = {2, 31, 430, 30};
        wrong("close", -1, good, 0, -1, 4, MIN, MAX);
        wrong("close", -1, good, 1, NO_YEARS);
        wrong("close", -1, good, 3, NO_DAYS);
        wrong("close", -3, good, 1, 0, 29, 30, 32, 399);
        wrong("close", -3, good, 2, 429, 431, 0, -1, MIN, MAX);
        // As known a DAY ahead YEAR 30 was not CLOSED.
        wrong("close", -3, good, 3, 29);
        twin.refused("close", -3, good, 2, 30, 500, 30);
    }

    private static void acres() {
        int[] good = {0, 0, 10};
        wrong("acres", -2, good, 0, NO_HOLDINGS);
        wrong("acres", -1, good, 1, -1, 3, MIN, MAX);
        wrong("acres", -1, good, 2, -1, 1001, MIN, MAX);
    }

    private static void price() {
        int[] good = {0, 31, 10, 0};
        wrong("price", -1, good, 0, -1, 3, MIN, MAX);
        wrong("price", -1, good, 1, NO_YEARS);
        wrong("price", -1, good, 2, -1, 10001, MIN, MAX);
        wrong("price", -1, good, 3, NO_DAYS);
    }

    private static void seal() {
        wrong("seal", -1, new int[] {31}, 0, NO_YEARS);
    }

    /** "-1 the mask; -2." */
    private static void alter() {
        int[] good = {4, 1};
        wrong("alter", -2, good, 0, NO_LINES);
        wrong("alter", -1, good, 1, 0, -1, 256, MIN, MAX);
    }

    private static void image() {
        wrong("image", -1, new int[] {0}, 0, -1, 4, MIN, MAX);
    }

    /** "-1; -2 it was not kept." The TAPE and WISHES stay then. */
    private static void back() {
        wrong("back", -1, new int[] {1}, 0, -1, 4, MIN, MAX);
        wrong("back", -2, new int[] {1}, 0, 0, 2, 3);
    }
}
