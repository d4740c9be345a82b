/** What the tests share: a chest, TEXTS fed to its TAPE, and a count of the answers that were not due. */
final class Probe {
    static final long NO_SUM = -2000000000000L;
    static final int NOTHING = -2000000000;
    static final int LAST = 146399;

    ParishChest x = new ParishChest();
    private int wrong = 0;
    private int asked = 0;

    void fresh() {
        x = new ParishChest();
    }

    void due(String call, long got, long want) {
        asked++;
        if (got != want) {
            wrong++;
            System.out.println(call + " answered " + got + ", due is " + want);
        }
    }

    /** The call was REFUSED for this, and status() tells it. */
    void refused(String call, long got, int why) {
        due(call, got, why);
        due("status() behind " + call, x.status(), why);
    }

    void taken(String call, long got, long want) {
        due(call, got, want);
        due("status() behind " + call, x.status(), 0);
    }

    /** Puts a text behind the TAPE: how many bytes it has then. */
    int feed(String text) {
        return feed(x, text);
    }

    static int feed(ParishChest chest, String text) {
        int before = chest.count(8);
        int[] five = new int[5];
        for (int from = 0; from < text.length(); from += 20) {
            for (int i = 0; i < 5; i++) {
                five[i] = 0;
                for (int j = 0; j < 4; j++) {
                    int at = from + i * 4 + j;
                    five[i] = five[i] << 8 | (at < text.length() ? text.charAt(at) & 255 : ' ');
                }
            }
            chest.feed(five[0], five[1], five[2], five[3], five[4]);
        }
        return chest.end(before + text.length());
    }

    int line(int book, int day, int number, String text) {
        return line(book, 0, day, day, number, text);
    }

    int line(int book, int hand, int day, int known, int number, String text) {
        feed(text);
        return x.line(book, hand, day, known, number);
    }

    int spell(int hand, String text) {
        feed(text);
        return x.spell(hand);
    }

    int law(String text) {
        return text(0, 0, 0, text);
    }

    int word(String text) {
        return text(1, 0, 0, text);
    }

    int text(int sort, int from, int known, String text) {
        feed(text);
        return x.text(sort, from, known);
    }

    /** A TEXT that can't be, with its FAULT. */
    void badText(String text, int fault) {
        int before = x.count(1);
        refused("text of \"" + text + "\"", law(text), -6);
        due("fault() of \"" + text + "\"", x.fault(), fault);
        due("count(8) behind \"" + text + "\"", x.count(8), 0);
        due("count(1) behind \"" + text + "\"", x.count(1), before);
    }

    void goodText(String text) {
        int before = x.count(1);
        taken("text of \"" + text + "\"", law(text), before);
        due("fault() of \"" + text + "\"", x.fault(), -1);
        due("count(8) behind \"" + text + "\"", x.count(8), 0);
    }

    void finish(String test) {
        System.out.println(test + ": " + asked + " answers, " + wrong + " wrong");
        if (wrong > 0) {
            System.exit(1);
        }
    }
}
