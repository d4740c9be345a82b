/** Promises 45 to 48: TURNS of OFFICES, ENTRIES, CLOSED YEARS, BALANCES. */
public final class OfficesTest {
    private static final Probe p = new Probe();
    private static final int Y = 366;

    public static void main(String[] args) {
        turns();
        spared();
        passedBy();
        lastClause();
        holdingsToldLater();
        turnWrong();
        entries();
        balances();
        closing();
        entriesBehindClosing();
        p.finish("OfficesTest");
    }

    private static void houses(int many) {
        p.fresh();
        for (int h = 0; h < many; h++) {
            p.line(3, 0, h, "ann lee.");
            p.x.holding();
            p.x.value(h, 10 * h + 10, 0, 0);
            p.x.hold(h, h * 3, 0, 0);
        }
    }

    private static void turn(int office, int year, int house, int passed, int uneven) {
        String what = "turn of " + office + " in " + year;
        p.due(what, p.x.turn(office, year, 146399, 0), house);
        p.due(what + ": PASSED", p.x.turn(office, year, 146399, 1), passed);
        p.due(what + ": uneven", p.x.turn(office, year, 146399, 2), uneven);
    }

    private static void turns() {
        houses(3);
        p.text(0, 2 * Y, 0, "turn constable 0");
        turn(0, 0, -1, 0, 0);
        turn(0, 1, -1, 0, 0);
        turn(0, 2, 0, 0, 1);
        turn(0, 3, 1, 0, 1);
        turn(0, 4, 2, 0, 0);
        turn(0, 5, 0, 0, 1);
        turn(0, 399, (399 - 2) % 3, 0, 1);
        turn(0, 1, -1, 0, 0);
        turn(1, 3, -1, 0, 0);
        p.text(0, 2 * Y + 1, 0, "turn surveyor 0");
        turn(1, 2, -1, 0, 0);
        turn(1, 3, 0, 0, 1);
        // A DAY behind the first DAY of a YEAR is too late for that YEAR.
        p.text(0, 6 * Y, 100, "strike 0 clause 0");
        turn(0, 5, 0, 0, 1);
        turn(0, 6, -1, 0, 1);
        p.due("as known", p.x.turn(0, 6, 99, 0), 1);
        p.due("not known at all", p.x.turn(0, 6, 0, 0), 1);
        houses(0);
        p.law("turn warden 0");
        turn(3, 5, -1, 0, 0);
    }

    private static void spared() {
        houses(3);
        p.law("turn overseer 2");
        turn(2, 0, 0, 0, 1);
        turn(2, 3, 0, 0, 1);
        turn(2, 5, 2, 0, 0);
        houses(3);
        p.law("turn overseer 3");
        turn(2, 2, 2, 0, 0);
        turn(2, 3, -1, 3, 0);
        turn(2, 4, 0, 0, 1);
        turn(2, 7, -1, 3, 0);
        turn(2, 8, 0, 0, 1);
        houses(1);
        p.law("turn overseer 399");
        turn(2, 0, 0, 0, 0);
        turn(2, 1, -1, 1, 0);
        turn(2, 399, -1, 1, 0);
        houses(1);
        p.law("turn overseer 398");
        turn(2, 398, -1, 1, 0);
        turn(2, 399, 0, 0, 0);
    }

    private static void passedBy() {
        houses(4);
        p.law("turn constable 0 if value > 10 unless value = 30");
        turn(0, 0, 1, 1, 1);
        turn(0, 1, 3, 1, 1);
        turn(0, 2, 1, 1, 2);
        // Held by nobody; by a dead one.
        p.x.hold(1, -1, 4 * Y, 0);
        turn(0, 4, 3, 3, 3);
        p.line(2, 6 * Y, -1, "ann lee.");
        p.x.together(9, 12, 0);
        turn(0, 5, 3, 3, 4);
        turn(0, 6, -1, 4, 4);
        turn(0, 7, -1, 4, 4);
        p.due("not known to be dead", p.x.turn(0, 6, 6 * Y - 1, 0), 3);
        p.x.hold(2, 0, 8 * Y, 0);
        // Its holder has 10 and 30 then: 40.
        turn(0, 8, 0, 0, 4);
    }

    private static void lastClause() {
        houses(3);
        p.text(1, 0, 0, "turn warden 0 if value = 20");
        p.text(0, 0, 0, "turn warden 0;turn constable 0");
        turn(3, 0, 1, 1, 1);
        turn(3, 1, 1, 2, 2);
        p.text(1, 2 * Y, 0, "turn warden 1 if value > 100;turn warden 0 if value = 30");
        turn(3, 2, 2, 0, 2);
        p.text(0, 3 * Y, 0, "strike 0 clause 0;strike 2 clause 1");
        turn(3, 2, 2, 0, 2);
        // The last CLAUSE tells, even if it HOLDS for none.
        turn(3, 3, -1, 3, 2);
        p.text(1, 4 * Y, 0, "strike 2 clause 0");
        turn(3, 4, 0, 0, 1);
        // One OFFICE's TURNS are nothing to another's.
        turn(0, 4, 1, 0, 1);
    }

    private static void holdingsToldLater() {
        houses(2);
        p.law("turn warden 0");
        turn(3, 2, 0, 0, 1);
        p.x.holding();
        turn(3, 2, 0, 1, 2);
        p.x.hold(2, 3, 2 * Y, 5000);
        turn(3, 2, 2, 0, 0);
        p.due("as known", p.x.turn(3, 2, 4999, 0), 0);
        p.due("as known", p.x.turn(3, 2, 4999, 1), 1);
        p.x.split(0, 1, 2, 0, 0);
        turn(3, 3, 3, 0, 0);
    }

    private static void turnWrong() {
        houses(1);
        p.law("turn warden 0");
        p.due("OFFICE -1", p.x.turn(-1, 0, 0, 0), -1);
        p.due("OFFICE 4", p.x.turn(4, 0, 0, 1), -1);
        p.due("YEAR -1", p.x.turn(3, -1, 0, 1), -1);
        p.due("YEAR 400", p.x.turn(3, 400, 0, 1), -1);
        p.due("known -1", p.x.turn(3, 0, -1, 1), -1);
        p.due("known 146400", p.x.turn(3, 0, 146400, 1), -1);
        p.due("what -1", p.x.turn(3, 0, 0, -1), -1);
        p.due("what 3", p.x.turn(3, 0, 0, 3), -1);
        p.due("fine", p.x.turn(3, 0, 0, 0), 0);
    }

    private static void entries() {
        p.fresh();
        p.refused("OFFICE -1", p.x.entry(-1, 0, 0, 0), -1);
        p.refused("OFFICE 4", p.x.entry(4, 0, 0, 0), -1);
        p.refused("YEAR -1", p.x.entry(0, -1, 0, 0), -1);
        p.refused("YEAR 400", p.x.entry(0, 400, 0, 0), -1);
        p.refused("pence -1000001", p.x.entry(0, 0, -1000001, 0), -1);
        p.refused("pence 1000001", p.x.entry(0, 0, 1000001, 0), -1);
        p.refused("known -1", p.x.entry(0, 0, 0, -1), -1);
        p.refused("known 146400", p.x.entry(0, 0, 0, 146400), -1);
        for (int n = 1; n <= 100; n++) {
            p.taken("entry " + n, p.x.entry(3, 399, n % 2 == 0 ? 1000000 : -1000000, 146399), n);
        }
        p.refused("the 101st", p.x.entry(0, 0, 0, 0), -5);
        p.refused("-1 first", p.x.entry(4, 0, 0, 0), -1);
        p.due("count(11)", p.x.count(11), 100);
        p.due("balance", p.x.balance(3, 399, 146399), 0);
    }

    private static void balances() {
        p.fresh();
        p.x.entry(0, 5, 100, 10);
        p.x.entry(0, 5, -130, 20);
        p.x.entry(0, 6, 1, 5);
        p.x.entry(1, 5, 7, 5);
        p.due("known", p.x.balance(0, 5, 10), 100);
        p.due("all", p.x.balance(0, 5, 20), -30);
        p.due("not known", p.x.balance(0, 5, 9), 0);
        p.due("another YEAR", p.x.balance(0, 6, 20), 1);
        p.due("another OFFICE", p.x.balance(1, 5, 20), 7);
        p.due("OFFICE -1", p.x.balance(-1, 0, 0), Probe.NOTHING);
        p.due("OFFICE 4", p.x.balance(4, 0, 0), Probe.NOTHING);
        p.due("YEAR -1", p.x.balance(0, -1, 0), Probe.NOTHING);
        p.due("YEAR 400", p.x.balance(0, 400, 0), Probe.NOTHING);
        p.due("known -1", p.x.balance(0, 0, -1), Probe.NOTHING);
        p.due("known 146400", p.x.balance(0, 0, 146400), Probe.NOTHING);
    }

    private static void closing() {
        p.fresh();
        p.refused("OFFICE -1", p.x.close(-1, 0, 0, 0), -1);
        p.refused("OFFICE 4", p.x.close(4, 0, 9, 0), -1);
        p.refused("YEAR -1", p.x.close(0, -1, 0, 0), -1);
        p.refused("YEAR 400", p.x.close(0, 400, 0, 0), -1);
        p.refused("DAY -1", p.x.close(0, 0, 0, -1), -1);
        p.refused("DAY 146400", p.x.close(0, 0, 0, 146400), -1);
        p.x.entry(0, 5, 70, 10);
        p.refused("another BALANCE", p.x.close(0, 5, 69, 10), -3);
        p.refused("as known on that DAY", p.x.close(0, 5, 70, 9), -3);
        p.taken("close, any as the first", p.x.close(0, 5, 70, 10), 0);
        p.refused("the same YEAR", p.x.close(0, 5, 70, 10), -3);
        p.refused("a YEAR ahead", p.x.close(0, 4, 0, 10), -3);
        p.refused("not the next", p.x.close(0, 7, 0, 10), -3);
        p.refused("BALANCE of the next", p.x.close(0, 6, 0, 10), -3);
        p.taken("the next", p.x.close(0, 6, 70, 10), 0);
        p.taken("another OFFICE", p.x.close(1, 100, 0, 10), 0);
        p.due("carried on", p.x.balance(0, 7, 10), 70);
        p.due("not as known ahead", p.x.balance(0, 7, 9), 0);
        // CLOSED on an earlier DAY than the YEAR ahead: that one's is not known by then.
        p.refused("not known by then", p.x.close(0, 7, 70, 9), -3);
        p.taken("as known by then", p.x.close(0, 7, 0, 9), 0);
        for (int n = 0; n < 36; n++) {
            p.due("close " + n, p.x.close(2, n, 0, 0), 0);
        }
        p.refused("the 41st", p.x.close(2, 36, 0, 0), -5);
        p.refused("-3 first", p.x.close(2, 36, 1, 0), -3);
        p.refused("-1 first", p.x.close(4, 36, 1, 0), -1);
    }

    private static void entriesBehindClosing() {
        p.fresh();
        p.x.entry(0, 5, 10, 100);
        p.x.close(0, 5, 10, 100);
        p.x.close(0, 6, 10, 200);
        p.x.entry(0, 5, 1, 100);
        p.due("known on the DAY of CLOSING: its own", p.x.balance(0, 5, 100), 11);
        p.x.entry(0, 5, 2, 101);
        p.due("known behind it: the next YEAR's", p.x.balance(0, 5, 101), 11);
        p.due("known behind it: the next YEAR's", p.x.balance(0, 6, 101), 12);
        p.x.entry(0, 5, 4, 201);
        p.due("behind both: the YEAR behind", p.x.balance(0, 6, 201), 12);
        p.due("behind both: the YEAR behind", p.x.balance(0, 7, 201), 14);
        p.x.entry(0, 6, 8, 201);
        p.due("of the second: the YEAR behind", p.x.balance(0, 7, 201), 22);
        p.x.entry(1, 5, 16, 201);
        p.due("another OFFICE", p.x.balance(1, 5, 201), 16);
        p.x.entry(0, 4, 32, 201);
        p.due("a YEAR that was not CLOSED", p.x.balance(0, 4, 201), 32);
        // The last YEAR: nothing behind it.
        p.fresh();
        p.x.close(0, 399, 0, 10);
        p.x.entry(0, 399, 5, 11);
        p.due("behind the last YEAR", p.x.balance(0, 399, 11), 0);
    }
}
