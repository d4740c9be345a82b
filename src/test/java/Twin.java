/**
 * Two chests that were told the same. One is REFUSED a call: it answers and tells by status() what it was REFUSED by,
 * and all that can be asked of both is the same behind it, and so is what a good call of that kind answers then.
 */
final class Twin {
    private final Probe p;

    Twin(Probe p) {
        this.p = p;
    }

    void refused(String call, int why, int[] good, int... bad) {
        refused(Scene.built(), Scene.built(), call, why, good, bad);
    }

    void refused(ParishChest one, ParishChest other, String call, int why, int[] good, int... bad) {
        String told = shown(call, bad);
        p.due(told, Calls.put(one, call, bad), why);
        p.due("status() behind " + told, one.status(), why);
        same(told, one, other);
        if (good != null) {
            String next = shown(call, good) + " behind " + told;
            p.due(next, Calls.put(one, call, good), Calls.put(other, call, good));
            p.due("status() of " + next, one.status(), other.status());
        }
    }

    /** One of line, spell, text: the TAPE is empty behind it, as if it had been cut; the FAULT is told besides. */
    void refusedTape(String call, String text, int why, int fault, int... bad) {
        ParishChest one = Scene.built();
        ParishChest other = Scene.built();
        one.end(0);
        other.end(0);
        // A FAULT from ahead: it stays if nothing is read.
        Probe.feed(one, "abc 3");
        one.spell(0);
        Probe.feed(other, "abc 3");
        other.spell(0);
        Probe.feed(one, text);
        String told = shown(call, bad) + " of \"" + text + "\"";
        p.due(told, Calls.put(one, call, bad), why);
        p.due("status() behind " + told, one.status(), why);
        p.due("count(8) behind " + told, one.count(8), 0);
        p.due("fault() behind " + told, one.fault(), why == -6 ? fault : 4);
        if (why == -6) {
            // The other one's FAULT is set to the same place, that all else may be compared.
            Probe.feed(other, blanks(fault) + "3");
            other.spell(0);
        }
        same(told, one, other);
    }

    void same(String told, ParishChest one, ParishChest other) {
        long[] got = Scene.answers(one);
        long[] want = Scene.answers(other);
        int off = 0;
        for (int i = 0; i < want.length; i++) {
            off += got[i] == want[i] ? 0 : 1;
        }
        p.due("answers that changed by " + told, off, 0);
    }

    private static String blanks(int many) {
        StringBuilder row = new StringBuilder();
        for (int n = 0; n < many; n++) {
            row.append(' ');
        }
        return row.toString();
    }

    static String shown(String call, int... a) {
        StringBuilder row = new StringBuilder(call).append('(');
        for (int i = 0; i < a.length; i++) {
            row.append(i > 0 ? ", " : "").append(a[i]);
        }
        return row.append(')').toString();
    }
}
