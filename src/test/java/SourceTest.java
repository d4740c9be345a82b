import java.lang.reflect.Constructor;
import java.lang.reflect.Field;
import java.lang.reflect.Method;
import java.lang.reflect.Modifier;
import java.nio.charset.StandardCharsets;
import java.nio.file.Files;
import java.nio.file.Paths;
import java.util.Set;
import java.util.TreeSet;
import java.util.regex.Matcher;
import java.util.regex.Pattern;

/** Rules of LANGUAGE.md that can be looked up in the source and in the class. Run from the project's directory. */
public final class SourceTest {
    private static int wrong = 0;

    public static void main(String[] args) throws Exception {
        String source = new String(Files.readAllBytes(Paths.get("src/main/java/ParishChest.java")), StandardCharsets.UTF_8);
        String code = source.replaceAll("(?s)/\\*.*?\\*/", "").replaceAll("//[^\n]*", "");
        String bare = code.replaceAll("\"[^\"\n]*\"", "\"\"").replaceAll("'[^'\n]'", "' '");
        words(bare);
        methodLengths(source);
        members(ParishChest.class);
        for (Class<?> inner : ParishChest.class.getDeclaredClasses()) {
            nested(inner);
        }
        if (ParishChest.class.getDeclaredClasses().length > 12) {
            tell("too many classes");
        }
        System.out.println("SourceTest: " + wrong + " wrong");
        if (wrong > 0) {
            System.exit(1);
        }
    }

    private static void tell(String what) {
        wrong++;
        System.out.println(what);
    }

    private static void words(String code) {
        String[] forbidden = {"\\bthrow\\b", "\\bthrows\\b", "\\btry\\b", "\\bcatch\\b", "\\bsynchronized\\b", "\\bassert\\b",
            "->", "::", "\\bpackage\\b", "\\w+Exact\\b", "\\bdouble\\b", "\\bfloat\\b", "\\bSystem\\.(?!arraycopy)", "\\bthread",
            "\\bRandom\\b", "\\bhashCode\\b", "\\btoString\\b", "\\.equals\\b", "\\bprotected\\b", "\\bvolatile\\b", "\\bnative\\b",
            "\\bvar\\b", "\\byield\\b", "new String\\[", "\"\"\\s*\\+", "\\+\\s*\"\"", "@"};
        for (String one : forbidden) {
            Matcher m = Pattern.compile(one).matcher(code);
            if (m.find()) {
                tell("the source has " + m.group());
            }
        }
        Matcher imports = Pattern.compile("import ([\\w.]+);").matcher(code);
        while (imports.find()) {
            if (!imports.group(1).equals("java.util.Arrays")) {
                tell("import of " + imports.group(1));
            }
        }
        Matcher loops = Pattern.compile("(while|for) ?\\((true|;;)").matcher(code);
        if (loops.find()) {
            tell("a loop without an end: " + loops.group());
        }
    }

    private static void methodLengths(String source) {
        String[] lines = source.split("\n");
        for (int depth = 4; depth <= 8; depth += 4) {
            String indent = "        ".substring(0, depth);
            int start = -1;
            for (int n = 0; n < lines.length; n++) {
                if (lines[n].matches(indent + "[a-z].*\\) \\{")) {
                    start = n;
                }
                if (lines[n].equals(indent + "}") && start >= 0) {
                    if (n - start > 60) {
                        tell("a long method: " + lines[start].trim());
                    }
                    start = -1;
                }
            }
        }
    }

    private static void members(Class<?> type) {
        Set<String> faces = new TreeSet<>();
        for (Method m : type.getDeclaredMethods()) {
            if (Modifier.isPublic(m.getModifiers())) {
                faces.add(m.getName());
            }
        }
        if (faces.size() != 62) {
            tell("the face has " + faces.size() + " methods");
        }
        for (Method m : type.getDeclaredMethods()) {
            boolean face = Modifier.isPublic(m.getModifiers());
            if (!face && !Modifier.isPrivate(m.getModifiers())) {
                tell("neither public nor private: " + m);
            }
            if (!face && faces.contains(m.getName())) {
                tell("a private method bears a public name: " + m);
            }
            if (m.getParameterCount() > 7) {
                tell("too many parameters: " + m);
            }
        }
        for (Class<?> inner : type.getDeclaredClasses()) {
            for (Method m : inner.getDeclaredMethods()) {
                if (faces.contains(m.getName())) {
                    tell("a method inside bears a public name: " + m);
                }
                if (m.getParameterCount() > 7) {
                    tell("too many parameters: " + m);
                }
            }
        }
        for (Field f : type.getDeclaredFields()) {
            if (!Modifier.isPrivate(f.getModifiers()) && !f.getName().equals("NONE")) {
                tell("not private: " + f);
            }
        }
        fields(type);
        Constructor<?>[] constructors = type.getDeclaredConstructors();
        if (constructors.length != 1 || !Modifier.isPublic(constructors[0].getModifiers())
                || !Modifier.isFinal(type.getModifiers())) {
            tell("the constructor, or the class");
        }
    }

    private static void nested(Class<?> inner) {
        if (!Modifier.isStatic(inner.getModifiers()) || !Modifier.isPrivate(inner.getModifiers())) {
            tell("not private static: " + inner);
        }
        for (Method m : inner.getDeclaredMethods()) {
            if (Modifier.isPublic(m.getModifiers()) || m.isSynthetic()) {
                tell("public or synthetic: " + m);
            }
        }
        fields(inner);
    }

    private static void fields(Class<?> type) {
        int many = 0;
        for (Field f : type.getDeclaredFields()) {
            if (!Modifier.isStatic(f.getModifiers())) {
                many++;
                continue;
            }
            Class<?> t = f.getType();
            if (!Modifier.isFinal(f.getModifiers()) || !(t == int.class || t == long.class || t == String.class
                    || t == boolean.class || t == char.class || t == int[].class)) {
                tell("a static field: " + f);
            }
        }
        if (many > 20) {
            tell(many + " fields of " + type);
        }
    }
}
