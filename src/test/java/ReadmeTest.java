import java.lang.reflect.Method;
import java.nio.file.Files;
import java.nio.file.Path;
import java.util.Arrays;
import java.util.List;
import java.util.regex.Matcher;
import java.util.regex.Pattern;

/** What README.md says of a call is what the document says of it, and what the class answers. */
public final class ReadmeTest {
    private static final Pattern TEXT = Pattern.compile("for \\(char c : \"([^\"]*)\"\\.toCharArray\\(\\)\\) \\{");
    private static final Pattern CALL = Pattern.compile("wheel\\.(\\w+)\\(([^)]*)\\);\\s+// (-?\\d+)(:.*)?");
    private static final Pattern PROMISE = Pattern.compile("`[^`]*\\)`: .*");
    private static final int PROMISES = 31;
    private static int wrong;

    public static void main(String[] args) throws Exception {
        List<String> readme = Files.readAllLines(Path.of("README.md"));
        List<String> document = Files.readAllLines(Path.of("../shared/DOC.md"));
        callsInTheDocumentsWords(readme, document);
        answersOfTheExample(readme);
        System.out.println(wrong == 0 ? "README.md is as told" : wrong + " faults of README.md");
        if (wrong != 0) System.exit(1);
    }

    private static void due(String what, Object got, Object want) {
        if (got.equals(want)) return;
        wrong++;
        System.out.println("README.md: " + what + ": found " + got + ", due is " + want);
    }

    private static void callsInTheDocumentsWords(List<String> readme, List<String> document) {
        List<String> promises = document.stream().filter(line -> PROMISE.matcher(line).matches()).toList();
        List<String> calls = readme.stream().filter(line -> line.startsWith("- `") && line.contains(")`: "))
            .map(line -> line.substring(2)).toList();
        due("promises of the document", promises.size(), PROMISES);
        due("the calls", calls, promises);
    }

    private static void answersOfTheExample(List<String> readme) throws Exception {
        CaseWheel wheel = new CaseWheel();
        int calls = 0;
        for (String line : readme.subList(readme.indexOf("```java") + 1, readme.lastIndexOf("```"))) {
            Matcher text = TEXT.matcher(line);
            Matcher call = CALL.matcher(line);
            if (text.matches()) {
                for (char c : text.group(1).toCharArray()) wheel.write(c);
            } else if (call.matches()) {
                calls++;
                due(line, answer(wheel, call.group(1), call.group(2)), Integer.parseInt(call.group(3)));
            }
        }
        long commented = readme.stream().filter(line -> line.contains("; ") && line.contains(" // ")).count();
        due("lines with an answer that could be read", (long) calls, commented);
        due("there are some", calls > 20, true);
    }

    private static Object answer(CaseWheel wheel, String name, String arguments) throws Exception {
        Object[] values = arguments.isEmpty() ? new Object[0]
            : Arrays.stream(arguments.split(", ")).map(ReadmeTest::number).toArray();
        Class<?>[] types = new Class<?>[values.length];
        Arrays.fill(types, int.class);
        Method method = CaseWheel.class.getMethod(name, types);
        return method.invoke(wheel, values);
    }

    private static Integer number(String argument) {
        return argument.startsWith("'") ? argument.charAt(1) : Integer.parseInt(argument);
    }
}
