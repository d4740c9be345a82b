/** Promises 59 to 63: IMAGES, BACK, THINGS AS a KIND, counts, status. */
public final class ChestTest {
    private static final Probe p = new Probe();
    private static final int Y = 366;

    public static void main(String[] args) {
        images();
        backToAll();
        otherLines();
        whatStays();
        kinds();
        counts();
        status();
        p.finish("ChestTest");
    }

    private static void images() {
        p.fresh();
        p.refused("image(-1)", p.x.image(-1), -1);
        p.refused("image(4)", p.x.image(4), -1);
        p.refused("back(-1)", p.x.back(-1), -1);
        p.refused("back(4)", p.x.back(4), -1);
        for (int k = 0; k < 4; k++) {
            p.refused("back(" + k + ")", p.x.back(k), -2);
            p.x.holding();
            p.taken("image(" + k + ")", p.x.image(k), 0);
        }
        for (int k = 3; k >= 0; k--) {
            p.taken("back(" + k + ")", p.x.back(k), 0);
            p.due("HOLDINGS of IMAGE " + k, p.x.count(3), k + 1);
        }
        p.taken("IMAGES stay", p.x.back(3), 0);
        p.due("HOLDINGS", p.x.count(3), 4);
        p.taken("kept anew", p.x.image(0), 0);
        p.x.holding();
        p.taken("back", p.x.back(0), 0);
        p.due("HOLDINGS", p.x.count(3), 4);
    }

    private static void tellAll(int n) {
        p.line(0, 0, 10 * Y + n, n, -1, "ann lee, bob lee.");
        p.line(2, 0, 10 * Y + n, n, 5, "ann lee.");
        p.line(5, 0, 10 * Y + n, n, 5, "ann lee.");
        p.x.apart(0, 3 + n * 9);
        p.x.together(n * 9, n * 9 + 3, n);
        p.x.torn(0, n, n, 0);
        p.text(0, n, 0, "seat " + (n + 5) + ";belong birth;rate poor " + (n + 1));
        p.x.fact(n * 9, 0, n + 1, 0, 9, 0);
        p.x.appeal(n * 3 + 2, 10 * Y + n, 0);
        p.x.holding();
        p.x.value(n * 2, 100 + n, 0, 0);
        p.x.split(n * 2, 1, 2, 0, 0);
        p.x.hold(n * 2, n * 9, 0, 0);
        p.x.levy(2, 11 + n, 1000, 0);
        p.x.pay(n, 0, 5 + n, 0, 0);
        p.x.entry(1, n, 50, 0);
        p.x.close(1, n, 50 + n * 50, 0);
        p.x.price(0, n, 30 + n, 0);
        p.x.seal(10);
        p.x.alter(0, 1 + n);
    }

    private static long[] askAll() {
        long[] all = new long[120];
        int n = 0;
        for (int what = 0; what <= 11; what++) {
            all[n++] = p.x.count(what);
        }
        for (int i = 0; i < 8; i++) {
            all[n++] = p.x.of(i, 2);
            all[n++] = p.x.of(i, 3);
            all[n++] = p.x.name(i * 3, 0, -1);
            all[n++] = p.x.soul(i * 3, 5000);
            all[n++] = p.x.house(i, 5000, 5000, 0);
            all[n++] = p.x.house(i, 5000, 5000, 1);
            all[n++] = p.x.owe(i, 0, 5000);
            all[n++] = p.x.arrear(i, 0, 5000, 5000);
            all[n++] = p.x.balance(1, i, 5000);
            all[n++] = p.x.as(i, 6);
            all[n++] = p.x.force(i, 0, 5000, 5000);
        }
        all[n++] = p.x.reason(0, 3);
        all[n++] = p.x.reason(0, 12);
        all[n++] = p.x.fill(0, 0, 146399, 5000, 2);
        all[n++] = p.x.counts(7, 0, 5000, 5000, 0);
        all[n++] = p.x.belong(0, 5000, 5000, 0);
        all[n++] = p.x.order(2, 5000, 1);
        all[n++] = p.x.order(5, 5000, 1);
        all[n++] = p.x.found(10);
        all[n++] = p.x.waits(5000, -1);
        all[n++] = p.x.coin(0, 3, 0);
        return all;
    }

    private static void same(String what, long[] got, long[] want) {
        for (int i = 0; i < want.length; i++) {
            p.due(what + ", answer " + i, got[i], want[i]);
        }
    }

    /** IMAGE 3 of none, 1 of one, 0 of two of all that is told. */
    private static void keepThree() {
        p.fresh();
        p.x.image(3);
        tellAll(0);
        p.x.acres(0, 0, 10);
        p.x.image(1);
        tellAll(1);
        p.x.image(0);
    }

    private static void backToAll() {
        p.fresh();
        long[] empty = askAll();
        tellAll(0);
        p.x.acres(0, 0, 10);
        long[] one = askAll();
        tellAll(1);
        long[] two = askAll();
        keepThree();
        same("two", askAll(), two);
        p.x.back(1);
        same("back to one", askAll(), one);
        keepThree();
        p.x.back(1);
        tellAll(1);
        same("told again", askAll(), two);
        p.x.back(3);
        same("back to none", askAll(), empty);
        keepThree();
        p.x.back(3);
        p.x.back(0);
        same("on to two", askAll(), two);
        keepThree();
        p.x.back(1);
        p.x.alter(0, 4);
        p.due("found: two bits of two masks", p.x.found(10), 0);
        p.x.back(1);
        same("altered ones come back", askAll(), one);
    }

    /** What is worked out of a LINE is worked out anew, the first LINE's, too. */
    private static void otherLines() {
        p.fresh();
        p.x.image(0);
        p.line(2, 50 * Y, 40, "ann lee.");
        p.line(0, 10 * Y, -1, "ann lee.");
        p.x.image(1);
        p.x.alter(0, 16);
        p.due("AGE 56", p.x.reason(0, 3), 7);
        p.x.back(1);
        p.due("AGE 40 again", p.x.reason(0, 3), 0);
        p.x.back(0);
        p.line(0, 20 * Y, -1, "eve fox, bob fox.");
        p.due("another LINE 0", p.x.name(0, 0, 0), 'e');
        p.due("another MENTION", p.x.name(1, 0, 0), 'b');
        p.due("no LINE 1", p.x.soul(3, 146399), -1);
        p.x.back(1);
        p.due("the old LINE 0", p.x.name(0, 0, 0), 'a');
        p.due("no such MENTION", p.x.name(1, 0, 0), -1);
        p.due("the old SPAN", p.x.span(0, 146399, 2), 50 * Y);
        p.due("the old REASON", p.x.reason(0, 3), 0);
    }

    private static void whatStays() {
        p.fresh();
        p.line(2, 0, 0, "ann lee.");
        p.x.holding();
        p.x.image(2);
        p.x.terms(1, 2, 3, 4, 5);
        p.spell(0, "ann>eve");
        p.x.acres(0, 1, 100);
        p.x.price(1, 0, 10, 0);
        p.x.wish(0);
        p.feed("some bytes");
        p.taken("back", p.x.back(2), 0);
        p.due("the TAPE is empty", p.x.count(8), 0);
        p.due("WISHES are none", p.x.count(7), 0);
        p.due("no WISH", p.x.group(0), -1);
        p.due("SPELLINGS stay", p.x.name(0, 0, 0), 'e');
        p.due("PRICES don't", p.x.coin(0, 1, 0), 0);
        p.x.price(1, 0, 10, 0);
        p.due("ACRES stay", p.x.coin(0, 1, 0), 100);
        p.line(3, 0, 0, "eve lee.");
        p.due("terms stay", p.x.worth(0, 3), 3);
        p.refused("a bad TEXT", p.law("x"), -6);
        p.feed("badge;");
        p.x.back(2);
        p.due("fault() is the latest's", p.x.fault(), 0);
        p.x.image(2);
        p.feed("ab");
        p.taken("image", p.x.image(2), 0);
        p.due("image() leaves the TAPE", p.x.count(8), 2);
    }

    private static void kinds() {
        p.fresh();
        int[] numbers = {-1, -1, -1, 0, 0, 1};
        for (int book = 0; book < 6; book++) {
            p.line(book, 0, numbers[book], ".");
            if (book == 2) {
                p.law("badge");
                p.x.fact(0, 0, 0, 0, 0, 0);
                p.x.holding();
                p.x.split(0, 1, 2, 0, 0);
            }
        }
        // THINGS: LINES 0 1 2, TEXT 0, FACT 0, HOLDINGS 0 1, LINES 3 4 5.
        int[] lines = {0, 1, 2, -3, -3, -3, -3, 3, 4, 5};
        int[] books = {0, 1, 2, -1, -1, -1, -1, 3, 4, 5};
        for (int thing = 0; thing < 10; thing++) {
            for (int kind = 0; kind < 6; kind++) {
                boolean is = books[thing] == kind || books[thing] == 4 && kind == 3;
                p.due("as(" + thing + ", " + kind + ")", p.x.as(thing, kind), is ? lines[thing] : -3);
            }
            p.due("as(" + thing + ", 6)", p.x.as(thing, 6), lines[thing]);
            p.due("as(" + thing + ", 7)", p.x.as(thing, 7), thing == 3 ? 0 : -3);
            p.due("as(" + thing + ", 8)", p.x.as(thing, 8), thing == 4 ? 0 : -3);
            p.due("as(" + thing + ", 9)", p.x.as(thing, 9), thing == 5 ? 0 : thing == 6 ? 1 : -3);
        }
        p.due("none", p.x.as(10, 0), -2);
        p.due("none", p.x.as(-1, 0), -2);
        p.due("no KIND first", p.x.as(10, 10), -1);
        p.due("no KIND first", p.x.as(0, -1), -1);
    }

    private static void counts() {
        p.fresh();
        tellAll(0);
        p.x.wish(0);
        p.feed("abc");
        int[] want = {3, 1, 1, 2, 7, 1, 1, 1, 3, 1, 1, 1};
        for (int what = 0; what < 12; what++) {
            p.due("count(" + what + ")", p.x.count(what), want[what]);
        }
        p.due("count(12)", p.x.count(12), -1);
        p.due("count(-1)", p.x.count(-1), -1);
    }

    /** Each call that can be REFUSED sets it; no other call does. */
    private static void status() {
        p.fresh();
        p.due("ahead of any", p.x.status(), 0);
        p.refused("alter", p.x.alter(0, 0), -1);
        askAll();
        p.x.feed(0, 0, 0, 0, 0);
        p.x.end(0);
        p.x.end(-1);
        p.x.fault();
        p.x.clear();
        p.x.best(0, 0);
        p.x.mentions(0, 0, 0, 0);
        p.x.kin(0, 0, 0, 0);
        p.x.span(0, 0, 0);
        p.x.piece(0, 0, 0, 9);
        p.x.worth(0, 0);
        p.x.holds(0, 0, 0, 0, 0);
        p.x.about(0, 0, 0, 0);
        p.x.turn(0, 0, 0, 0);
        p.x.beyond(0, 0);
        p.x.badge(0, 0, 0);
        p.x.seat(0, 0, 0);
        p.x.fee(0, 0);
        p.due("status() stays", p.x.status(), -1);
        p.taken("image", p.x.image(0), 0);
        p.refused("fact", p.x.fact(0, 0, 0, 0, 0, 0), -2);
        p.taken("holding", p.x.holding(), 0);
        p.refused("together", p.x.together(0, 0, -1), -1);
        p.taken("seal", p.x.seal(0), 0);
        p.refused("close", p.x.close(0, 0, 1, 0), -3);
        p.taken("join", p.x.join(0), 0);
        p.refused("text", p.law(""), -6);
        p.taken("spell", p.spell(0, ""), 0);
    }
}
