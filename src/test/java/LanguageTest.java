import java.io.IOException;
import java.nio.file.Files;
import java.nio.file.Path;
import java.util.regex.Matcher;
import java.util.regex.Pattern;

/** The rules of LANGUAGE.md that can be seen from the words of the source alone. */
public final class LanguageTest {
    private static final Check CHECK = new Check();

    public static void main(String[] args) throws IOException {
        String source = Files.readString(Path.of("src/main/java/RugPunch.java"));
        String code = withoutTexts(source);
        wordsThatAreNotAllowed(code);
        callsOfTheLibrary(code);
        staticFields(code);
        sizes(code);
        for (char sign : source.toCharArray()) {
            CHECK.holds("the sign " + (int) sign + " is one of 1 to 127", sign >= 1 && sign <= 127);
        }
        CHECK.finish("LanguageTest");
    }

    /** The source without what stands in comments and between quotes. */
    private static String withoutTexts(String source) {
        String code = source.replaceAll("(?s)/\\*.*?\\*/", "").replaceAll("//[^\n]*", "");
        return code.replaceAll("\"[^\"\n]*\"", "\"\"").replaceAll("'.'", "' '");
    }

    private static void wordsThatAreNotAllowed(String code) {
        String[] words = {
            "import", "package", "try", "catch", "finally", "synchronized", "assert", "protected", "native", "volatile",
            "transient", "->", "::", "Object", "Thread", "Random", "hashCode", "toString", "getClass", "var", "@",
            "printStackTrace", "Runtime", "nanoTime", "currentTimeMillis", "Exact",
        };
        for (String word : words) {
            String edge = Character.isLetter(word.charAt(0)) ? "\\b" : "";
            CHECK.holds("no '" + word + "' in the source", !Pattern.compile(edge + Pattern.quote(word) + edge).matcher(code).find());
        }
        CHECK.holds("no static initialiser", !Pattern.compile("\\bstatic\\s*\\{").matcher(code).find());
        CHECK.same("public classes", count(code, "\\bpublic (final )?class\\b"), 1);
        Matcher thrown = Pattern.compile("throw new (\\w+)").matcher(code);
        while (thrown.find()) {
            CHECK.holds(thrown.group() + " is allowed",
                    thrown.group(1).matches("IllegalStateException|IllegalArgumentException|IndexOutOfBoundsException"));
        }
    }

    private static void callsOfTheLibrary(String code) {
        Matcher call = Pattern.compile("\\b([A-Z]\\w*)\\.([a-z]\\w*)\\(").matcher(code);
        while (call.find()) {
            CHECK.holds(call.group() + " is allowed",
                    call.group().matches("(Math\\.(max|min|abs|floorMod|floorDiv)|System\\.arraycopy)\\("));
        }
    }

    private static void staticFields(String code) {
        Matcher field = Pattern.compile("\\bstatic ([^(){};=]*)[=;]").matcher(code);
        while (field.find()) {
            CHECK.holds("'" + field.group() + "' is a constant", field.group(1).matches("final (int|long|boolean|char|String) \\w+ "));
        }
    }

    private static void sizes(String code) {
        CHECK.holds("some twelve classes at most", count(code, "\\bclass \\w+ \\{") <= 12);
        Matcher method = Pattern.compile("(?s)\\n( +)[^\\n=;]*\\(([^(){};]*)\\)[^(){};]*\\{\\n(.*?)\\n\\1\\}").matcher(code);
        int methods = 0;
        while (method.find()) {
            methods++;
            CHECK.holds("lines of" + method.group().split("\n")[1], method.group(3).split("\n").length <= 60);
            CHECK.holds("parameters of" + method.group().split("\n")[1], method.group(2).split(",").length <= 7);
        }
        CHECK.holds("methods were found", methods > 60);
    }

    private static int count(String code, String pattern) {
        int count = 0;
        Matcher matcher = Pattern.compile(pattern).matcher(code);
        while (matcher.find()) {
            count++;
        }
        return count;
    }
}
