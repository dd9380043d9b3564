import java.io.File;
import java.lang.reflect.Method;
import java.nio.file.Files;
import java.nio.file.Path;
import java.util.ArrayList;
import java.util.List;
import java.util.regex.Matcher;
import java.util.regex.Pattern;

/** What README.md shows: its calls answer as they are told there, and it leaves out no call and no test. */
public final class ReadmeTest {
    private static final Path README = Path.of("README.md");
    private static final Path TESTS = Path.of("src/test/java");
    private static final Pattern BLOCK = Pattern.compile("(?s)```java\n(.*?)```");
    private static final Pattern TEXT = Pattern.compile("for \\(char letter : \"(\\w+)\"\\.toCharArray\\(\\)\\) \\{");
    private static final Pattern CALL = Pattern.compile("x\\.(\\w+)\\(([^)]*)\\); +// (-?\\d+|LastOfKind\\.\\w+): .+");
    private static final List<String> PLAIN = List.of("LastOfKind x = new LastOfKind();", "    x.write(letter);", "}");

    private static int wrong = 0;
    private static int called = 0;

    private ReadmeTest() {
    }

    public static void main(String[] args) throws Exception {
        String page = Files.readString(README);
        Matcher block = BLOCK.matcher(page);
        while (block.find()) {
            follow(block.group(1));
        }
        due("calls shown, more than twenty", called > 20, true);
        for (Method method : LastOfKind.class.getMethods()) {
            if (method.getDeclaringClass() == LastOfKind.class) {
                due(method.getName() + " is named", page.contains("`" + method.getName() + "`"), true);
            }
        }
        for (File file : TESTS.toFile().listFiles()) {
            String name = file.getName();
            boolean runs = name.endsWith("Test.java");
            due(name + " is named", page.contains(runs ? TESTS + "/" + name : name.replace(".java", ""))
                || name.equals("Sentences.java"), true);
        }
        System.out.println(wrong == 0 ? "readme: " + called + " calls answer as shown" : "readme: " + wrong + " faults");
        if (wrong != 0) {
            System.exit(1);
        }
    }

    private static void due(String what, Object got, Object want) {
        if (!want.equals(got)) {
            wrong++;
            System.out.println("README.md: " + what + ": " + got + ", due is " + want);
        }
    }

    private static void follow(String block) throws Exception {
        LastOfKind x = new LastOfKind();
        for (String line : block.split("\n")) {
            Matcher text = TEXT.matcher(line);
            Matcher call = CALL.matcher(line);
            if (text.matches()) {
                text.group(1).chars().forEach(x::write);
            } else if (call.matches()) {
                called++;
                due(line, answer(x, call.group(1), call.group(2)), number(call.group(3)));
            } else {
                due("is understood, " + line, PLAIN.contains(line), true);
            }
        }
    }

    private static long number(String told) throws Exception {
        String constant = told.replace("LastOfKind.", "");
        return constant.equals(told) ? Long.parseLong(told) : LastOfKind.class.getField(constant).getInt(null);
    }

    private static Object answer(LastOfKind x, String name, String told) throws Exception {
        List<Object> arguments = new ArrayList<>();
        for (String each : told.isEmpty() ? new String[0] : told.split(", ")) {
            boolean isBoolean = each.equals("true") || each.equals("false");
            arguments.add(isBoolean ? (Object) Boolean.valueOf(each) : Integer.valueOf(each));
        }
        for (Method method : LastOfKind.class.getMethods()) {
            if (method.getName().equals(name) && method.getParameterCount() == arguments.size()) {
                return ((Number) method.invoke(x, arguments.toArray())).longValue();
            }
        }
        return "there is no such call";
    }
}
