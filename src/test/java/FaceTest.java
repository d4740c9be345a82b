import java.lang.reflect.Constructor;
import java.lang.reflect.Field;
import java.lang.reflect.Method;
import java.lang.reflect.Modifier;
import java.nio.charset.StandardCharsets;
import java.nio.file.Files;
import java.nio.file.Paths;
import java.util.Set;
import java.util.TreeSet;
import java.util.regex.Matcher;
import java.util.regex.Pattern;

/**
 * The public face is the document's, letter by letter: its list, the heads of Promises 1 to 63, and nothing beside them.
 * Run from the project's directory.
 */
public final class FaceTest {
    private static int asked = 0;
    private static int wrong = 0;

    public static void main(String[] args) throws Exception {
        String document = new String(Files.readAllBytes(Paths.get("../shared/DOC.md")), StandardCharsets.UTF_8);
        int from = document.indexOf("```java");
        int to = document.indexOf("```", from + 7);
        Set<String> listed = found("public (int|long) (\\w+)\\(([^)]*)\\);", document.substring(from, to));
        Set<String> promised = found("`(int|long) (\\w+)\\(([^)]*)\\)`", document);
        Set<String> faces = faces();
        same("the list of the face", listed, faces);
        same("the heads of the promises", promised, faces);
        due("methods", faces.size(), 62);
        constants();
        asked++;
        Constructor<?>[] made = ParishChest.class.getConstructors();
        if (made.length != 1 || made[0].getParameterCount() != 0 || !Modifier.isFinal(ParishChest.class.getModifiers())
                || !Modifier.isPublic(ParishChest.class.getModifiers()) || ParishChest.class.getPackageName().length() > 0) {
            tell("the class, or its constructor");
        }
        sideBySide();
        System.out.println("FaceTest: " + asked + " answers, " + wrong + " wrong");
        if (wrong > 0) {
            System.exit(1);
        }
    }

    private static void tell(String what) {
        wrong++;
        System.out.println(what);
    }

    private static void due(String what, long got, long want) {
        asked++;
        if (got != want) {
            tell(what + " is " + got + ", due is " + want);
        }
    }

    private static Set<String> found(String pattern, String text) {
        Set<String> all = new TreeSet<>();
        Matcher m = Pattern.compile(pattern).matcher(text);
        while (m.find()) {
            all.add(m.group(1) + " " + m.group(2) + "(" + m.group(3).replaceAll(" \\w+(,|$)", "$1") + ")");
        }
        return all;
    }

    private static Set<String> faces() {
        Set<String> all = new TreeSet<>();
        for (Method m : ParishChest.class.getDeclaredMethods()) {
            if (!Modifier.isPrivate(m.getModifiers())) {
                StringBuilder one = new StringBuilder();
                for (Class<?> type : m.getParameterTypes()) {
                    one.append(one.length() == 0 ? "" : ", ").append(type.getName());
                }
                all.add(m.getReturnType().getName() + " " + m.getName() + "(" + one + ")");
            }
        }
        return all;
    }

    private static void same(String what, Set<String> want, Set<String> got) {
        for (String one : want) {
            asked++;
            if (!got.contains(one)) {
                tell(what + " has " + one + ", the class has not");
            }
        }
        for (String one : got) {
            asked++;
            if (!want.contains(one)) {
                tell("the class has " + one + ", but not " + what);
            }
        }
    }

    private static void constants() throws Exception {
        due("NONE", ParishChest.NONE, -1);
        for (Field f : ParishChest.class.getFields()) {
            due("a constant " + f, f.getName().equals("NONE") && Modifier.isFinal(f.getModifiers())
                    && Modifier.isStatic(f.getModifiers()) && f.getType() == int.class ? 1 : 0, 1);
        }
    }

    /** Two chests know nothing of one another: calls to both by turns answer as those to each by itself. */
    private static void sideBySide() {
        long[] full = Scene.answers(Scene.built());
        long[] empty = Scene.answers(new ParishChest());
        ParishChest one = Scene.built();
        ParishChest other = new ParishChest();
        long[] twice = Scene.answers(one);
        long[] none = Scene.answers(other);
        for (int i = 0; i < full.length; i++) {
            due("answer " + i + " of a full chest beside an empty one", twice[i], full[i]);
            due("answer " + i + " of an empty chest beside a full one", none[i], empty[i]);
        }
        one = new ParishChest();
        other = new ParishChest();
        for (int n = 0; n < 20; n++) {
            due("LINE " + n + " of the one", tellLine(one, n), n);
            due("THINGS of the other", other.count(4), n);
            due("HOLDING " + n + " of the other", other.holding(), n);
            due("LINES of the one", one.count(0), n + 1);
        }
        due("bytes fed to the one", one.feed(1, 2, 3, 4, 5), 20);
        due("the other's TAPE", other.count(8), 0);
        due("REFUSED by the one", one.back(0), -2);
        due("status() of the other", other.status(), 0);
    }

    private static int tellLine(ParishChest chest, int n) {
        Probe.feed(chest, "ann lee.");
        return chest.line(2, 0, n, n, n);
    }
}
