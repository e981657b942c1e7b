import java.io.IOException;
import java.lang.reflect.Constructor;
import java.lang.reflect.Field;
import java.lang.reflect.Method;
import java.lang.reflect.Modifier;
import java.nio.file.Files;
import java.nio.file.Path;
import java.util.ArrayList;
import java.util.List;
import java.util.Set;
import java.util.TreeSet;
import java.util.regex.Matcher;
import java.util.regex.Pattern;

/** What of LANGUAGE.md a machine can look at: the face, and words that may not stand in the source. */
public final class LanguageTest {
    private static final String[] FACE = {
        "int feed(int)", "int end(int)", "int text()", "int fault()", "int rule(int)", "int one(int, int)",
        "int letter(int, int)", "int feels(int, int)", "int alter(int, int, int)", "int tone(int, int)", "int pace(int)",
        "int write(int, int, int, int)", "int burn(int)", "int days(int)", "int runs(int, int)", "int ahead(int, int)",
        "int comes(int)", "int say(int, int, int)", "int need(int, int)", "int about(int, int, int)", "int swap(int, int)",
        "int stop(int, int)", "int kind(int, int, int)", "long luck(int, int, int, int)", "long mean(int, int, int)",
        "int see(int, int, int)", "int forget(int)", "int kinds(int)", "int tones(int)", "int ask(int, int)",
        "int drift(int, int, int)", "int keep(int)", "int back(int)", "int sheet(int, int, int)", "int lay(int, int, int)",
        "int read(int, int, int, int)", "int torn()", "int count(int)"};
    private static final String[] FORBIDDEN = {
        "\\bthrow\\b", "\\bthrows\\b", "\\btry\\b", "\\bcatch\\b", "\\bsynchronized\\b", "\\bassert\\b", "->", "::",
        "\\bimport\\b", "\\bpackage\\b", "\\w*Exact\\b", "\\bprotected\\b", "\\bvar\\b", "\"\\s*\\+", "\\+\\s*\"",
        "\\bstatic\\s*\\{", "\\bhashCode\\b", "\\btoString\\b", "\\.equals\\b"};
    private static int wrong = 0;

    private static void check(boolean holds, String what) {
        if (!holds) {
            wrong++;
            System.out.println(what);
        }
    }

    private static String signature(Method m) {
        List<String> types = new ArrayList<>();
        for (Class<?> c : m.getParameterTypes()) types.add(c.getSimpleName());
        return m.getReturnType().getSimpleName() + " " + m.getName() + "(" + String.join(", ", types) + ")";
    }

    private static void face() {
        Class<?> c = FrankPost.class;
        check(Modifier.isPublic(c.getModifiers()) && Modifier.isFinal(c.getModifiers()), "the class is public and final");
        Set<String> want = new TreeSet<>(List.of(FACE));
        Set<String> have = new TreeSet<>();
        Set<String> names = new TreeSet<>();
        for (Method m : c.getDeclaredMethods()) {
            if (Modifier.isPublic(m.getModifiers())) {
                have.add(signature(m));
                names.add(m.getName());
            }
        }
        check(have.equals(want), "the public methods are " + have);
        for (Method m : c.getDeclaredMethods()) {
            boolean hidden = Modifier.isPrivate(m.getModifiers()) || m.isSynthetic();
            check(Modifier.isPublic(m.getModifiers()) || hidden && !names.contains(m.getName()), "neither public nor apart: " + m);
        }
        Constructor<?>[] made = c.getDeclaredConstructors();
        check(made.length == 1 && Modifier.isPublic(made[0].getModifiers()) && made[0].getParameterCount() == 0, "one public constructor of nothing");
        Set<String> constants = new TreeSet<>();
        for (Field f : c.getDeclaredFields()) {
            if (Modifier.isPublic(f.getModifiers())) constants.add(f.getName());
            else check(Modifier.isPrivate(f.getModifiers()) || f.isSynthetic(), "a field that is seen: " + f);
        }
        check(constants.equals(Set.of("BAD", "STATE", "FULL", "NONE")), "the constants are " + constants);
        inside(c, names);
    }

    private static void inside(Class<?> c, Set<String> names) {
        check(c.getDeclaredClasses().length <= 11, "twelve classes at most");
        for (Class<?> in : c.getDeclaredClasses()) {
            check(Modifier.isStatic(in.getModifiers()), in + " is static");
            int fields = 0;
            for (Field f : in.getDeclaredFields()) if (!Modifier.isStatic(f.getModifiers())) fields++;
            check(fields <= 20, in + " has " + fields + " fields");
            for (Method m : in.getDeclaredMethods()) {
                check(!names.contains(m.getName()), m + " bears a public name");
                check(m.getParameterCount() <= 7, m + " takes too many");
            }
        }
    }

    private static void source(String s) {
        String code = s.replaceAll("(?s)/\\*.*?\\*/", "").replaceAll("//[^\n]*", "");
        for (String f : FORBIDDEN) {
            Matcher m = Pattern.compile(f).matcher(code);
            check(!m.find(), "the source has " + f);
        }
        check(code.chars().allMatch(c -> c < 128), "the source has signs above 127");
        for (String line : code.split("\n")) {
            boolean field = line.matches("\\s*(private |public )?static .*[=;].*") && !line.contains("(");
            check(!field || line.contains("static final int "), "a static field that is no constant: " + line);
        }
    }

    /** Objects are made in the constructors alone, so that no call makes any. */
    private static void makesNothing(String s) {
        int at = s.indexOf("// ---- the text");
        int classes = s.indexOf("private static final class");
        check(at > 0 && classes > at && !s.substring(at, classes).contains("new "), "a call makes an object");
    }

    public static void main(String[] args) throws IOException {
        face();
        String s = Files.readString(Path.of("src/main/java/FrankPost.java"));
        source(s);
        makesNothing(s);
        System.out.println(wrong == 0 ? "the language is kept to" : wrong + " faults of language");
        if (wrong != 0) System.exit(1);
    }
}
