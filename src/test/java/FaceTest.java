import java.lang.reflect.Constructor;
import java.lang.reflect.Field;
import java.lang.reflect.Member;
import java.lang.reflect.Method;
import java.lang.reflect.Modifier;
import java.nio.file.Files;
import java.nio.file.Path;
import java.util.ArrayList;
import java.util.List;
import java.util.Map;
import java.util.Set;
import java.util.TreeMap;
import java.util.TreeSet;
import java.util.regex.Pattern;

/** The public face of the document, and the rules of ../shared/LANGUAGE.md that a look at the source can tell. */
public final class FaceTest {
    private static final String SOURCE = "src/main/java/CaseWheel.java";
    private static int wrong;

    public static void main(String[] args) throws Exception {
        face();
        constants();
        sizes();
        source(Files.readString(Path.of(SOURCE)));
        lengthsOfMethods(Files.readAllLines(Path.of(SOURCE)));
        System.out.println(wrong == 0 ? "the face and the source are as told" : wrong + " faults");
        if (wrong != 0) System.exit(1);
    }

    private static void due(String what, Object got, Object want) {
        if (got.equals(want)) return;
        wrong++;
        System.out.println(what + ": found " + got + ", due is " + want);
    }

    private static void face() {
        due("public and final", Modifier.toString(CaseWheel.class.getModifiers()), "public final");
        Map<String, Integer> parameters = new TreeMap<>();
        String[] none = {"erase", "fault", "wheel", "undo"};
        String[] one = {"write", "seal", "refuse", "keep", "back", "writing", "like", "slip", "value", "named", "drop",
            "told"};
        String[] two = {"judge", "caseOf", "assign", "away", "sealOf", "weight", "next", "count", "join", "letter",
            "find"};
        for (String name : none) parameters.put(name, 0);
        for (String name : one) parameters.put(name, 1);
        for (String name : two) parameters.put(name, 2);
        parameters.put("insert", 3);
        parameters.put("cut", 3);
        parameters.put("odds", 4);
        Map<String, Integer> found = new TreeMap<>();
        for (Method m : CaseWheel.class.getDeclaredMethods()) {
            if (isHidden(m)) {
                due("no private method bears a public name: " + m.getName(), parameters.containsKey(m.getName()), false);
                continue;
            }
            found.put(m.getName(), m.getParameterCount());
            due("modifiers of " + m.getName(), Modifier.toString(m.getModifiers()), "public");
            due("answer of " + m.getName(), m.getReturnType(), int.class);
            for (Class<?> type : m.getParameterTypes()) due("parameters of " + m.getName(), type, int.class);
        }
        due("methods", found, parameters);
        Constructor<?>[] constructors = CaseWheel.class.getDeclaredConstructors();
        due("constructors", constructors.length, 1);
        due("its parameters", constructors[0].getParameterCount(), 0);
        due("its modifiers", Modifier.toString(constructors[0].getModifiers()), "public");
    }

    private static boolean isHidden(Member m) {
        return Modifier.isPrivate(m.getModifiers()) || m.isSynthetic();
    }

    private static void constants() throws Exception {
        Map<String, Integer> values = Map.of("NONE", -1, "UNKNOWN", -2, "OUTSIDE", -3, "NOT", -4, "FULL", -5,
            "NULL", -11, "INDEX", -12, "ROOM", -13, "NUMBER", -14);
        Set<String> found = new TreeSet<>();
        for (Field f : CaseWheel.class.getDeclaredFields()) {
            if (isHidden(f)) continue;
            found.add(f.getName());
            due("modifiers of " + f.getName(), Modifier.toString(f.getModifiers()), "public static final");
            due("type of " + f.getName(), f.getType(), int.class);
            due("value of " + f.getName(), f.getInt(null), values.getOrDefault(f.getName(), 0));
        }
        due("constants", found, new TreeSet<>(values.keySet()));
        for (Class<?> inside : CaseWheel.class.getDeclaredClasses()) {
            due(inside + " is static", Modifier.isStatic(inside.getModifiers()), true);
        }
    }

    /** Rule 11, but for the lengths of methods. */
    private static void sizes() {
        List<Class<?>> all = new ArrayList<>(List.of(CaseWheel.class.getDeclaredClasses()));
        all.add(CaseWheel.class);
        due("at most 12 classes", all.size() <= 12, true);
        for (Class<?> one : all) {
            int fields = 0;
            for (Field f : one.getDeclaredFields()) fields += Modifier.isStatic(f.getModifiers()) ? 0 : 1;
            due("at most 20 fields in " + one, fields <= 20, true);
            for (Method m : one.getDeclaredMethods()) {
                due("at most 7 parameters of " + m.getName(), m.getParameterCount() <= 7, true);
            }
        }
    }

    /** Rule 11: a method begins and ends at the same indent, in the class itself or in one inside it. */
    private static void lengthsOfMethods(List<String> lines) {
        int begin = -1;
        for (int i = 0; i < lines.size(); i++) {
            String line = lines.get(i);
            if (line.matches("( {4}| {8})\\w[^=;]*\\) \\{") && !line.matches(" +(if|for|while|switch) .*")) {
                begin = i;
            } else if (begin >= 0 && line.equals(lines.get(begin).replaceAll("\\S.*", "}"))) {
                due("at most 60 lines: " + lines.get(begin).trim(), i - begin + 1 <= 60, true);
                begin = -1;
            }
        }
    }

    private static void source(String whole) {
        String code = whole.replaceAll("(?s)/\\*.*?\\*/", "").replaceAll("//[^\n]*", "").replaceAll("\"[^\"]*\"", "\"\"");
        String[] forbidden = {"\\b(throw|throws|try|catch|finally|synchronized|assert|package|volatile|transient)\\b",
            "->", "::", "\\bObject\\b", "\\bsuper\\b", "Exact\\b", "@\\w+", "\\bSystem\\.(?!arraycopy)", "\\bThread\\b",
            "\\bwhile\\s*\\(\\s*true", "\\bfor\\s*\\(\\s*;", "\\bhashCode\\b", "\\btoString\\b", "\\bInteger\\.MAX"};
        for (String rule : forbidden) due("forbidden: " + rule, Pattern.compile(rule).matcher(code).find(), false);
        due("imports", code.replaceAll("(?s)\\bimport java\\.util\\.(Arrays|ArrayList|List|Iterator);", "")
            .contains("import"), false);
        due("letters 1 to 127 alone", whole.chars().allMatch(c -> c >= 1 && c <= 127), true);
    }
}
