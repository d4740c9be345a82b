import java.util.ArrayList;
import java.util.Arrays;
import java.util.List;
import java.util.TreeMap;

/**
 * Random runs of calls, all promises mixed, of as many calls as an object is used for: the class and the Model answer
 * the same. A second chest, the guide, is told all as well: by it the next call is chosen, so that the first has no other calls.
 */
public final class ModelTest {
    private static final String TOLD_CALLS = " line spell terms apart together wish join torn text fact appeal holding value split"
            + " hold levy pay entry close acres price seal alter image back ";
    private static final TreeMap<String, int[]> TOLD = new TreeMap<>();

    private final Calls calls;
    private final ParishChest x = new ParishChest();
    private final ParishChest guide = new ParishChest();
    private final Model model = new Model();
    private final List<String> log = new ArrayList<>();
    private int used = 0;

    private ModelTest(long seed) {
        calls = new Calls(seed);
    }

    public static void main(String[] args) {
        int runs = args.length > 0 ? Integer.parseInt(args[0]) : 800;
        long first = args.length > 1 ? Long.parseLong(args[1]) : 1;
        int most = args.length > 2 ? Integer.parseInt(args[2]) : 512;
        int wrong = 0;
        for (long seed = first; seed < first + runs && wrong < 5; seed++) {
            wrong += new ModelTest(seed).run(seed, most) ? 0 : 1;
        }
        if (args.length > 0) {
            TOLD.forEach((name, n) -> System.out.println(name + ": " + n[0] + " asked, " + n[1] + " not NONE, 0 or refused"));
        }
        System.out.println("ModelTest: " + runs + " runs, " + wrong + " wrong");
        if (wrong > 0) {
            System.exit(1);
        }
    }

    /** A TEXT is some 22 calls at most, a call with status() and fault() three. */
    private boolean run(long seed, int most) {
        for (int n = 0; used + 25 <= most; n++) {
            String name = calls.next(guide);
            int[] a = calls.arguments(name, guide);
            if (name.equals("fill")) {
                calls.fillDays(a, guide);
            }
            String text = calls.textFor(name);
            if (text != null) {
                log.add("tape \"" + text + "\"");
                feed(text);
            }
            long got = put(name, a);
            long want = model.ask(name, a);
            log.add(name + Arrays.toString(a) + " -> " + got);
            int[] told = TOLD.computeIfAbsent(name, k -> new int[2]);
            told[0]++;
            told[1] += got > 0 ? 1 : 0;
            boolean tells = TOLD_CALLS.contains(" " + name + " ");
            if (got != want || tells && (put("status") != model.ask("status") || put("fault") != model.ask("fault"))) {
                System.out.println("run " + seed + ", call " + n + ": " + name + Arrays.toString(a) + " answered " + got
                        + ", due is " + want + " (status " + x.status() + ", due is " + model.ask("status") + ")");
                if (System.getProperty("log") != null) {
                    log.forEach(System.out::println);
                }
                return false;
            }
        }
        return true;
    }

    private long put(String name, int... a) {
        used++;
        Calls.put(guide, name, a);
        return Calls.put(x, name, a);
    }

    /** The TAPE becomes this text alone. */
    private void feed(String text) {
        put("end", 0);
        model.ask("end", 0);
        for (int from = 0; from < text.length(); from += 20) {
            int[] five = new int[5];
            for (int at = 0; at < 20; at++) {
                int sign = from + at < text.length() ? text.charAt(from + at) & 255 : ' ';
                five[at / 4] = five[at / 4] << 8 | sign;
            }
            put("feed", five);
            model.ask("feed", five);
        }
        put("end", text.length());
        model.ask("end", text.length());
    }
}
