import java.util.ArrayList;
import java.util.Arrays;
import java.util.List;
import java.util.TreeMap;

/** Random runs of calls, all promises mixed: the class and the Model answer the same. */
public final class ModelTest {
    private static final TreeMap<String, int[]> TOLD = new TreeMap<>();

    public static void main(String[] args) {
        int runs = args.length > 0 ? Integer.parseInt(args[0]) : 150;
        long first = args.length > 1 ? Long.parseLong(args[1]) : 1;
        int calls = args.length > 2 ? Integer.parseInt(args[2]) : 300;
        int wrong = 0;
        for (long seed = first; seed < first + runs && wrong < 5; seed++) {
            wrong += run(seed, calls) ? 0 : 1;
        }
        if (args.length > 0) {
            TOLD.forEach((name, n) -> System.out.println(name + ": " + n[0] + " asked, " + n[1] + " not NONE, 0 or refused"));
        }
        System.out.println("ModelTest: " + runs + " runs, " + wrong + " wrong");
        if (wrong > 0) {
            System.exit(1);
        }
    }

    private static boolean run(long seed, int many) {
        Calls calls = new Calls(seed);
        ParishChest x = new ParishChest();
        Model model = new Model();
        List<String> log = new ArrayList<>();
        for (int n = 0; n < many; n++) {
            String name = calls.next(x);
            int[] a = calls.arguments(name, x);
            if (name.equals("fill")) {
                calls.fillDays(a, x);
            }
            String text = calls.textFor(name);
            if (text != null) {
                x.end(0);
                model.ask("end", 0);
                Probe.feed(x, text);
                feed(model, text);
                log.add("tape \"" + text + "\"");
            }
            long got = Calls.put(x, name, a);
            long want = model.ask(name, a);
            log.add(name + Arrays.toString(a) + " -> " + got);
            int[] told = TOLD.computeIfAbsent(name, k -> new int[2]);
            told[0]++;
            told[1] += got > 0 ? 1 : 0;
            if (got != want || x.status() != model.ask("status") || x.fault() != model.ask("fault")) {
                System.out.println("run " + seed + ", call " + n + ": " + name + Arrays.toString(a) + " answered " + got
                        + ", due is " + want + " (status " + x.status() + ", due is " + model.ask("status") + ")");
                if (System.getProperty("log") != null) {
                    log.forEach(System.out::println);
                }
                return false;
            }
        }
        return true;
    }

    private static void feed(Model model, String text) {
        int before = (int) model.ask("count", 8);
        for (int from = 0; from < text.length(); from += 20) {
            int[] five = new int[5];
            for (int at = 0; at < 20; at++) {
                int sign = from + at < text.length() ? text.charAt(from + at) & 255 : ' ';
                five[at / 4] = five[at / 4] << 8 | sign;
            }
            model.ask("feed", five);
        }
        model.ask("end", before + text.length());
    }
}
