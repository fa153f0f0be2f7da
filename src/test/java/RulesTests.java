import java.io.IOException;
import java.lang.reflect.Constructor;
import java.lang.reflect.Field;
import java.lang.reflect.Member;
import java.lang.reflect.Method;
import java.lang.reflect.Modifier;
import java.nio.file.Files;
import java.nio.file.Path;
import java.util.ArrayList;
import java.util.Arrays;
import java.util.List;
import java.util.Set;
import java.util.TreeSet;
import java.util.regex.Matcher;
import java.util.regex.Pattern;

/** The public face, and what LANGUAGE.md rules out, as far as the source and the compiled classes show it. */
public final class RulesTests {
    private static final String[] FACE = {
        "GullDeeds()", "feed(int)", "row()", "fault()", "told(int)", "house(int,int)", "gull(int,int)", "ahead(int)",
        "logged(int,int)", "day(int)", "pay(int,int)", "bread(int,int)", "stone(int)", "lend(int)", "swap(int,int)",
        "drift(int)", "undo(int)", "owes(int,int)", "firstOut(int)", "outBy(int)", "redeemedBy(int)", "loan(int)",
        "clear(int)", "bestSwap(int,int)", "home(int)", "mostBread(int)", "sure(int,int)", "hear(int,int,boolean)",
        "gales(int)", "listen()", "write(int,int)", "judge()", "tear()", "seed(int)", "keep(int)", "goBack(int)",
        "NONE=-1", "UNKNOWN=-1000000001", "OUTSIDE=-1000000002", "NOT=-1000000003", "FULL=-1000000004"};
    private static final String[] FORBIDDEN = {
        "throw", "throws", "try", "catch", "synchronized", "assert", "import", "package", "->", "::", "Exact",
        "hashCode", "toString", "instanceof", "lambda", "var", "native", "volatile", "protected", "values"};
    private static final Set<String> LIBRARY = Set.of("Math.min", "Math.max", "Integer.bitCount", "System.arraycopy");

    private static int wrong = 0;

    private static void hold(String rule, boolean holds) {
        if (!holds) {
            wrong++;
            System.out.println("RulesTests: broken: " + rule);
        }
    }

    public static void main(String[] args) throws IOException, IllegalAccessException {
        face();
        for (Class<?> each : allClasses()) members(each);
        source(bare(Files.readString(Path.of("src/main/java/GullDeeds.java"))));
        System.out.println(wrong == 0 ? "RulesTests: all rules hold" : "RulesTests: " + wrong + " rules are broken");
        if (wrong != 0) System.exit(1);
    }

    private static List<Class<?>> allClasses() {
        List<Class<?>> all = new ArrayList<>();
        all.add(GullDeeds.class);
        all.addAll(Arrays.asList(GullDeeds.class.getDeclaredClasses()));
        return all;
    }

    private static void face() throws IllegalAccessException {
        Set<String> seen = new TreeSet<>();
        for (Field f : GullDeeds.class.getDeclaredFields()) {
            if (!Modifier.isPrivate(f.getModifiers())) seen.add(f.getName() + "=" + f.get(null));
        }
        for (Constructor<?> c : GullDeeds.class.getDeclaredConstructors()) {
            if (!Modifier.isPrivate(c.getModifiers())) seen.add("GullDeeds" + types(c.getParameterTypes()));
        }
        for (Method m : GullDeeds.class.getDeclaredMethods()) {
            if (Modifier.isPrivate(m.getModifiers())) continue;
            seen.add(m.getName() + types(m.getParameterTypes()));
            hold("int is answered by " + m, m.getReturnType() == int.class && Modifier.isPublic(m.getModifiers()));
        }
        hold("1: the face is " + seen, seen.equals(new TreeSet<>(Arrays.asList(FACE))));
        int kind = GullDeeds.class.getModifiers();
        hold("1: public and final", Modifier.isPublic(kind) && Modifier.isFinal(kind));
        hold("11: at most twelve classes", allClasses().size() <= 12);
    }

    private static String types(Class<?>[] types) {
        StringBuilder all = new StringBuilder("(");
        for (Class<?> t : types) all.append(all.length() == 1 ? "" : ",").append(t.getSimpleName());
        return all.append(")").toString();
    }

    private static void members(Class<?> each) {
        if (each != GullDeeds.class) {
            int kind = each.getModifiers();
            hold("1, 2: " + each + " is static, not public", Modifier.isStatic(kind) && !Modifier.isPublic(kind) && !Modifier.isProtected(kind));
            hold("2: no class within " + each, each.getDeclaredClasses().length == 0);
        }
        int fields = 0;
        for (Field f : each.getDeclaredFields()) {
            if (Modifier.isStatic(f.getModifiers())) {
                hold("5: a static field is final: " + f, Modifier.isFinal(f.getModifiers()));
            } else {
                fields++;
            }
        }
        hold("11: at most twenty fields in " + each, fields <= 20);
        Set<String> names = new TreeSet<>();
        for (String call : FACE) names.add(call.replaceAll("\\(.*", ""));
        for (Method m : each.getDeclaredMethods()) {
            boolean own = each == GullDeeds.class && Modifier.isPublic(m.getModifiers());
            hold("1: no other method bears a public one's name: " + m, own || !names.contains(m.getName()));
            hold("11: at most seven parameters: " + m, m.getParameterCount() <= 7);
            hold("no hidden member: " + m, !((Member) m).isSynthetic());
        }
    }

    /** The source without comments and without what stands in quotes. */
    private static String bare(String source) {
        return source.replaceAll("(?s)/\\*.*?\\*/", "").replaceAll("//[^\n]*", "").replaceAll("'(\\\\.|[^'])'", "0").replaceAll("\"[^\"\n]*\"", "");
    }

    private static void source(String bare) {
        for (String word : FORBIDDEN) {
            String edge = Character.isLetter(word.charAt(0)) ? "\\b" : "";
            hold("4, 6: no '" + word + "'", !Pattern.compile(edge + word + edge).matcher(bare).find());
        }
        Matcher calls = Pattern.compile("\\b[A-Z][A-Za-z]*\\.[a-zA-Z]+").matcher(bare);
        while (calls.find()) hold("4: of the library: " + calls.group(), LIBRARY.contains(calls.group()));
        copies(bare);
        methodLengths(bare);
    }

    /** Rule 4 lists the copying of arrays of numbers alone. */
    private static void copies(String bare) {
        Matcher copied = Pattern.compile("System\\.arraycopy\\((?:\\w+\\.)?(\\w+), [^,]+, (?:\\w+\\.)?(\\w+),").matcher(bare);
        int seen = 0;
        while (copied.find()) {
            seen++;
            for (int side = 1; side <= 2; side++) {
                boolean ofNumbers = Pattern.compile("\\b(int|long|char)\\[\\] " + copied.group(side) + "\\b").matcher(bare).find();
                hold("4: arraycopy over arrays of numbers: " + copied.group(side), ofNumbers);
            }
        }
        hold("4: every arraycopy is looked at", seen == bare.split("arraycopy", -1).length - 1);
    }

    private static void methodLengths(String bare) {
        int lines = 0;
        boolean within = false;
        for (String line : bare.split("\n")) {
            if (line.matches("    (    )?[^ }].*\\) \\{")) {
                within = true;
                lines = 0;
            }
            lines++;
            if (within && line.matches("    (    )?\\}")) {
                within = false;
                hold("11: a method of at most sixty lines", lines <= 60);
            }
        }
    }
}
