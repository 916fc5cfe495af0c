import java.io.IOException;
import java.lang.reflect.InvocationTargetException;
import java.lang.reflect.Method;
import java.lang.reflect.Modifier;
import java.nio.file.Files;
import java.nio.file.Path;
import java.util.ArrayList;
import java.util.List;
import java.util.regex.Matcher;
import java.util.regex.Pattern;
import java.util.stream.Stream;

/** What README.md tells holds: the answers of its example, the calls and the tests that it names. */
public final class ReadmeTest {
    private static final Check CHECK = new Check();
    private static final Pattern CALL =
            Pattern.compile("rug\\.(\\w+)\\(([-0-9, ]*)\\); +// (?:(-?\\d+)|throws (\\w+)).*");
    private static final Pattern TEXT = Pattern.compile("for \\(char sign : \"([^\"]*)\"\\.toCharArray.*");

    public static void main(String[] args) throws IOException, IllegalAccessException {
        String page = Files.readString(Path.of("README.md"));
        example(page);
        namesEachCall(page);
        namesEachTest(page);
        CHECK.finish("ReadmeTest");
    }

    private static void example(String page) throws IllegalAccessException {
        int start = page.indexOf("```java");
        RugPunch rug = new RugPunch();
        int answers = 0;
        for (String line : page.substring(start, page.indexOf("```", start + 3)).split("\n")) {
            Matcher call = CALL.matcher(line);
            Matcher text = TEXT.matcher(line);
            if (call.matches()) {
                compare(rug, call);
                answers++;
            } else if (text.matches()) {
                Check.write(rug, text.group(1));
            } else {
                CHECK.holds("'" + line + "' has nothing to compare", line.matches(
                        "```java|RugPunch rug = new RugPunch\\(\\);| +rug\\.append\\(sign\\); +//.*|}|"));
            }
        }
        CHECK.holds("the example has answers", answers > 10);
    }

    private static void compare(RugPunch rug, Matcher call) throws IllegalAccessException {
        String[] told = call.group(2).isEmpty() ? new String[0] : call.group(2).split(", *");
        Object[] given = new Object[told.length];
        for (int i = 0; i < told.length; i++) {
            given[i] = Integer.parseInt(told[i]);
        }
        String got;
        try {
            got = method(call.group(1)).invoke(rug, given).toString();
        } catch (InvocationTargetException e) {
            got = e.getCause().getClass().getSimpleName();
        }
        String due = call.group(3) != null ? call.group(3) : call.group(4);
        CHECK.holds(call.group() + " (answered " + got + ")", got.equals(due));
    }

    private static Method method(String name) {
        for (Method method : RugPunch.class.getDeclaredMethods()) {
            if (method.getName().equals(name) && Modifier.isPublic(method.getModifiers())) {
                return method;
            }
        }
        throw new IllegalStateException("the class has no call " + name);
    }

    private static void namesEachCall(String page) {
        for (Method method : RugPunch.class.getDeclaredMethods()) {
            if (Modifier.isPublic(method.getModifiers())) {
                CHECK.holds("README.md names " + method.getName(), page.contains("`" + method.getName() + "`"));
            }
        }
    }

    private static void namesEachTest(String page) throws IOException {
        List<String> tests = new ArrayList<>();
        try (Stream<Path> files = Files.list(Path.of("src/test/java"))) {
            files.map(file -> file.getFileName().toString()).filter(name -> name.endsWith("Test.java"))
                    .forEach(name -> tests.add(name.replace(".java", "")));
        }
        for (String test : tests) {
            CHECK.holds("README.md names " + test, page.contains("\n| " + test + " |"));
        }
        Matcher named = Pattern.compile("\n\\| (\\w+Test) \\|").matcher(page);
        while (named.find()) {
            CHECK.holds(named.group(1) + " is a test", tests.contains(named.group(1)));
        }
    }
}
