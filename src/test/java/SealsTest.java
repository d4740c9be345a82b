/** Promises 56 to 58: SEALED YEARS, ALTERED NUMBERS, and the LINE that is FOUND. */
public final class SealsTest {
    private static final Probe p = new Probe();
    private static final int Y = 366;

    public static void main(String[] args) {
        seal();
        alter();
        found();
        notFound();
        alteredMatters();
        p.finish("SealsTest");
    }

    private static void year5() {
        p.fresh();
        p.line(3, 5 * Y, 100, "?.");
        p.line(3, 6 * Y, 100, "?.");
        p.line(4, 5 * Y + 365, 200, "?.");
        p.line(0, 5 * Y + 7, -1, "?.");
        p.line(2, 5 * Y - 1, 7, "?.");
        p.line(2, 5 * Y + 1, 7, "?.");
    }

    private static void seal() {
        year5();
        p.refused("YEAR -1", p.x.seal(-1), -1);
        p.refused("YEAR 400", p.x.seal(400), -1);
        p.taken("seal(5)", p.x.seal(5), 4);
        p.taken("seal(6)", p.x.seal(6), 1);
        p.taken("seal(7)", p.x.seal(7), 0);
        p.taken("seal(399)", p.x.seal(399), 0);
        p.due("found(5)", p.x.found(5), -1);
        p.due("found(7)", p.x.found(7), -1);
        p.due("not SEALED", p.x.found(4), -3);
        p.due("no YEAR", p.x.found(-1), -3);
        p.due("no YEAR", p.x.found(400), -3);
    }

    private static void alter() {
        year5();
        p.refused("mask 0", p.x.alter(99, 0), -1);
        p.refused("mask 256", p.x.alter(0, 256), -1);
        p.refused("mask -1", p.x.alter(0, -1), -1);
        p.refused("no LINE", p.x.alter(6, 1), -2);
        p.refused("no LINE", p.x.alter(-1, 1), -2);
        p.taken("alter", p.x.alter(0, 255), 155);
        p.due("of", p.x.of(0, 3), 155);
        p.taken("alter back", p.x.alter(0, 255), 100);
        p.taken("alter NONE", p.x.alter(3, 1), -2);
        p.taken("alter to NONE: status() tells", p.x.alter(3, 1), -1);
        p.taken("no bound is asked", p.x.alter(4, 255), 248);
        p.refused("refused: -1, too", p.x.alter(0, 0), -1);
    }

    private static void found() {
        for (int line = 0; line < 6; line++) {
            if (line == 1 || line == 4) {
                continue;
            }
            for (int mask = 1; mask < 256; mask += 31) {
                year5();
                p.x.seal(5);
                p.x.alter(line, mask);
                p.due("found " + line + " by mask " + mask, p.x.found(5), line);
                p.x.alter(line, mask);
                p.due("put right", p.x.found(5), -1);
            }
        }
        year5();
        p.x.seal(5);
        p.x.alter(1, 3);
        p.x.alter(4, 3);
        p.due("other YEARS' LINES", p.x.found(5), -1);
        p.x.alter(2, 3);
        p.x.alter(2, 12);
        p.due("one LINE, twice", p.x.found(5), 2);
        p.taken("seal anew", p.x.seal(5), 4);
        p.due("found none", p.x.found(5), -1);
    }

    private static void notFound() {
        year5();
        p.x.seal(5);
        // 100 becomes 101, 200 becomes 201: off by 2 at places 1 and 2 together: 3 is not 2 times a place.
        p.x.alter(0, 1);
        p.x.alter(2, 1);
        p.due("two that make none", p.x.found(5), -2);
        // 100 becomes 101, 7 becomes 6: the first sum is right, the second is not.
        year5();
        p.x.seal(5);
        p.x.alter(0, 1);
        p.x.alter(5, 1);
        p.due("the first sum is right alone", p.x.found(5), -2);
        // 100 becomes 101 at place 1, -1 becomes -2 + .. at place 3: off by 1 and 3: the one between is taken for it.
        p.fresh();
        p.line(3, 5 * Y, 100, "?.");
        p.line(3, 5 * Y, 100, "?.");
        p.line(3, 5 * Y, 100, "?.");
        p.x.seal(5);
        p.x.alter(0, 1);
        p.x.alter(2, 1);
        p.due("two that look as one", p.x.found(5), 1);
        year5();
        p.x.seal(5);
        p.line(2, 5 * Y, 0, "?.");
        p.due("a LINE came since", p.x.found(5), -2);
        year5();
        p.x.seal(5);
        p.line(2, 6 * Y, 9, "?.");
        p.due("a LINE of another YEAR", p.x.found(5), -1);
        p.x.seal(8);
        p.line(1, 8 * Y, -1, "?.");
        p.due("a LINE came into an empty YEAR", p.x.found(8), -2);
        p.x.seal(8);
        p.due("SEALED anew", p.x.found(8), -1);
    }

    /** What is ALTERED is what all others see. */
    private static void alteredMatters() {
        p.fresh();
        p.line(0, 10 * Y, -1, "ann lee.");
        p.line(2, 50 * Y, 40, "ann lee.");
        p.line(4, 30 * Y, 0, "ann lee.");
        p.due("AGE 40", p.x.reason(0, 3), 0);
        p.x.alter(1, 16);
        p.due("AGE 56", p.x.reason(0, 3), 7);
        p.due("SPAN", p.x.span(3, 146399, 1), -4 * Y + 365 < 0 ? 0 : 0);
        p.due("not poor", p.x.about(6, 30 * Y, 30 * Y, 7), 0);
        p.x.alter(2, 9);
        p.due("relieved", p.x.about(6, 30 * Y, 30 * Y, 4), 9);
        p.due("BEYOND", p.x.beyond(2, 30 * Y), 9);
    }
}
