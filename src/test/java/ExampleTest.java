import java.nio.charset.StandardCharsets;
import java.nio.file.Files;
import java.nio.file.Paths;
import java.util.LinkedHashMap;
import java.util.Map;
import java.util.regex.Matcher;
import java.util.regex.Pattern;

/**
 * The example of README.md: each of its lines stands here, and answers what README.md says behind it.
 * Run from the project's directory.
 */
public final class ExampleTest {
    private static final Map<String, Integer> ANSWERS = new LinkedHashMap<>();

    public static void main(String[] args) throws Exception {
        souls();
        houses();
        back();
        String readme = new String(Files.readAllBytes(Paths.get("README.md")), StandardCharsets.UTF_8);
        String here = new String(Files.readAllBytes(Paths.get("src/test/java/ExampleTest.java")), StandardCharsets.UTF_8);
        int wrong = 0;
        int lines = 0;
        Matcher m = Pattern.compile("(?m)^int (\\w+) = (.+;) +// (-?\\d+)\\b").matcher(readme);
        while (m.find()) {
            lines++;
            Integer got = ANSWERS.get(m.group(1));
            if (got == null || got != Integer.parseInt(m.group(3)) || !here.contains("int " + m.group(1) + " = " + m.group(2))) {
                wrong++;
                System.out.println("README.md: " + m.group() + " answered " + got);
            }
        }
        if (lines != ANSWERS.size()) {
            wrong++;
            System.out.println("README.md has " + lines + " lines of the example, due are " + ANSWERS.size());
        }
        System.out.println("ExampleTest: " + lines + " answers, " + wrong + " wrong");
        if (wrong > 0) {
            System.exit(1);
        }
    }

    /** Puts a text on the TAPE: four bytes a number, five numbers a call, then the TAPE is cut to the text's length. */
    static void write(ParishChest chest, String text) {
        int length = chest.count(8);
        for (int from = 0; from < text.length(); from += 20) {
            int[] five = new int[5];
            for (int i = 0; i < 20; i++) {
                five[i / 4] = five[i / 4] << 8 | (from + i < text.length() ? text.charAt(from + i) : ' ');
            }
            chest.feed(five[0], five[1], five[2], five[3], five[4]);
        }
        chest.end(length + text.length());
    }

    private static void note(String name, int answer) {
        ANSWERS.put(name, answer);
    }

    private static void souls() {
        ParishChest chest = new ParishChest();
        write(chest, "ann smith, john smith, mary ?.");
        int birth = chest.line(0, 0, 3660, 3660, ParishChest.NONE);
        note("birth", birth);
        write(chest, "y>i");
        int pairs = chest.spell(1);
        note("pairs", pairs);
        write(chest, "ann smyth.");
        int burial = chest.line(2, 1, 18300, 18300, 40);
        note("burial", burial);
        int reason = chest.reason(birth * 3, burial * 3);
        note("reason", reason);
        int together = chest.together(birth * 3, burial * 3, 18400);
        note("together", together);
        int ahead = chest.soul(burial * 3, 18399);
        note("ahead", ahead);
        int soul = chest.soul(burial * 3, 18400);
        note("soul", soul);
        int father = chest.kin(soul, 18400, 0, 0);
        note("father", father);
        int again = chest.together(burial * 3, birth * 3, 18400);
        note("again", again);
        int why = chest.status();
        note("why", why);
    }

    private static void houses() {
        ParishChest chest = new ParishChest();
        write(chest, "john smith.");
        int who = chest.line(3, 0, 7000, 7000, 12);
        note("who", who);
        int house = chest.holding();
        note("house", house);
        int values = chest.value(house, 120, 7000, 7000);
        note("values", values);
        int held = chest.hold(house, who * 3, 7000, 7000);
        note("held", held);
        write(chest, "rate poor value * 2 if value > 100; exempt poor if age > 60");
        int law = chest.text(0, 0, 0);
        note("law", law);
        int levy = chest.levy(2, 20, 1000, 7320);
        note("levy", levy);
        int owed = chest.owe(levy, house, 7320);
        note("owed", owed);
        int paid = chest.pay(levy, house, 100, 7400, 7400);
        note("paid", paid);
        int due = chest.arrear(levy, house, 7400, 7400);
        note("due", due);
        write(chest, "rate poor value + if holds");
        int bad = chest.text(0, 0, 0);
        note("bad", bad);
        int place = chest.fault();
        note("place", place);
    }

    private static void back() {
        ParishChest chest = new ParishChest();
        int kept = chest.image(0);
        note("kept", kept);
        int first = chest.holding();
        note("first", first);
        int back = chest.back(0);
        note("back", back);
        int houses = chest.count(3);
        note("houses", houses);
    }
}
