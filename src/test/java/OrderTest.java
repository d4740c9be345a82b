/**
 * "The first of these in that order": calls that are wrong in more than one way. What comes ahead of -5 is in RoomTest.
 */
public final class OrderTest {
    private static final Probe p = new Probe();
    private static final int Y = 366;

    public static void main(String[] args) {
        aheadOfReading();
        numberAheadOfNoSuch();
        numberAheadOfStanding();
        noSuchAheadOfStanding();
        appeals();
        questions();
        p.finish("OrderTest");
    }

    private static void refused(String call, int why, int... a) {
        ParishChest x = Scene.built();
        p.due(Twin.shown(call, a), Calls.put(x, call, a), why);
        p.due("status() behind " + Twin.shown(call, a), x.status(), why);
    }

    /** "-1; -5 (both ahead of reading it); -6": a TEXT that can't be is not looked at. */
    private static void aheadOfReading() {
        p.fresh();
        p.refused("a FAULT at 4", p.line(2, 0, 5, "ann 3."), -6);
        p.refused("line: -1 and -6", p.line(6, 0, 5, "3"), -1);
        p.due("no TEXT was read", p.x.fault(), 4);
        p.refused("text: -1 and -6", p.text(2, 0, 0, "3"), -1);
        p.due("no TEXT was read", p.x.fault(), 4);
        p.refused("spell: -1 and -6", p.spell(16, "3"), -1);
        p.due("no TEXT was read", p.x.fault(), 4);
        p.taken("an empty LINE", p.line(2, 0, 5, ""), 0);
        p.due("no FAULT", p.x.fault(), -1);
        p.refused("an empty TEXT", p.law(""), -6);
        p.due("the end's", p.x.fault(), 0);
        p.taken("no SPELLINGS", p.spell(0, ""), 0);
        p.due("no FAULT", p.x.fault(), -1);
    }

    private static void numberAheadOfNoSuch() {
        refused("together", -1, 99, 0, -1);
        refused("together", -1, 0, 99, 146400);
        refused("fact", -1, 99, 5, 0, 0, 0, 0);
        refused("fact", -1, 99, 0, 12, 0, 0, 0);
        refused("fact", -1, 99, 0, 0, 9, 8, 0);
        refused("fact", -1, 99, 0, 0, 0, 0, 146400);
        refused("value", -1, 99, 10001, 0, 0);
        refused("value", -1, 99, 0, -1, 0);
        refused("value", -1, 99, 0, 0, -1);
        refused("split", -1, 99, 2, 2, 0, 0);
        refused("split", -1, 99, 1, 101, 0, 0);
        refused("split", -1, 99, 1, 2, -1, 0);
        refused("split", -1, 99, 1, 2, 0, -1);
        refused("hold", -1, 99, 0, -1, 0);
        refused("hold", -1, 0, 99, 0, -1);
        refused("pay", -1, 99, 0, 0, 0, 0);
        refused("pay", -1, 0, 99, 1000001, 0, 0);
        refused("pay", -1, 99, 99, 1, -1, 0);
        refused("pay", -1, 99, 99, 1, 0, -1);
        refused("acres", -1, 99, 3, 0);
        refused("acres", -1, 99, 0, 1001);
        refused("alter", -1, 99, 0);
        refused("alter", -1, 99, 256);
        refused("appeal", -1, 99, -1, 0);
        refused("appeal", -1, 0, 0, 146400);
    }

    private static void numberAheadOfStanding() {
        refused("together", -1, 0, 0, 146400);
        refused("value", -1, 3, 10001, 0, 0);
        refused("value", -1, 3, 0, 146400, 0);
        refused("close", -1, 4, 7, 7, 7);
        refused("close", -1, 2, 400, 7, 7);
        refused("close", -1, 2, 7, 7, 146400);
    }

    private static void noSuchAheadOfStanding() {
        refused("apart", -2, 5, 5);
        refused("apart", -2, 21, 21);
        refused("together", -2, 5, 5, 0);
        refused("wish", -2, 5);
    }

    /** "-1 the DAYS; -2 no such LINE, or no ORDER; -1 a DAY ahead of the ORDER's; -5." */
    private static void appeals() {
        refused("appeal", -1, 0, -1, 0);
        refused("appeal", -2, 0, 0, 0);
        refused("appeal", -2, 7, 0, 0);
        refused("appeal", -1, 5, 31 * Y + 9, 0);
        ParishChest x = Scene.built();
        p.due("on the ORDER's DAY", x.appeal(5, 31 * Y + 10, 0), 2);
        p.due("status()", x.status(), 0);
    }

    /** piece() and as() tell theirs in this order, too, but are none of those that status() is of. */
    private static void questions() {
        ParishChest x = Scene.built();
        p.due("piece: -1 ahead of -2", x.piece(99, 0, 0, 7), -1);
        p.due("piece: -1 ahead of -2", x.piece(19, 0, 0, -1), -1);
        p.due("piece: -1 ahead of -3", x.piece(0, 0, 9, 7), -1);
        p.due("piece: -2 ahead of -3", x.piece(19, 0, 9, 6), -2);
        p.due("as: -1 ahead of -2", x.as(99, 10), -1);
        p.due("as: -1 ahead of -3", x.as(0, 10), -1);
        p.due("as: -2", x.as(99, 7), -2);
        p.due("as: -3", x.as(0, 7), -3);
        p.due("found: -3", x.found(400), -3);
        p.due("of: -2", x.of(99, 99), -2);
        p.due("status() is of none of them", x.status(), 0);
    }
}
