import java.nio.file.Files;
import java.nio.file.Path;
import java.util.regex.Matcher;
import java.util.regex.Pattern;

/** Those rules of LANGUAGE.md that can be read off the source, without its comments. */
public final class LanguageTest {
    private static final String[][] BARRED = {
        {"no lambda", "->"}, {"no method reference", "::"}, {"no finally", "\\bfinally\\b"},
        {"no synchronized", "\\bsynchronized\\b"}, {"no assert", "\\bassert\\b"}, {"no package", "\\bpackage\\b"},
        {"no catch of what the machine throws", "\\bcatch\\b"}, {"no equals, hashCode or toString",
        "\\b(equals|hashCode|toString)\\b"}, {"no clock, randomness or output", "\\b(System|Random|Thread|Runtime)\\b"},
        {"nothing that ends in Exact", "Exact\\b"}, {"no protected member", "\\bprotected\\b"},
        {"no division but by a number", "[^/*]/ *[^0-9/* ]"}, {"no remainder but by a number", "% *[^0-9 ]"},
        {"no static field that changes", "static (?!final)(int|long|boolean|char|String)\\b[^(]*[;=]"},
        {"no cast", "\\((int|long|Wrestler|Title|Match|Card|Mender)\\)"}, {"no joining of texts by +", "\" *\\+|\\+ *\""},
    };

    public static void main(String[] args) throws Exception {
        String source = Files.readString(Path.of("src/main/java/KayfabeRing.java"));
        for (int i = 0; i < source.length(); i++) {
            Check.due("rule 4: sign " + i, 1, source.charAt(i) < 127 ? 1 : 0);
        }
        String code = source.replaceAll("(?s)/\\*.*?\\*/", " ").replaceAll("//[^\n]*", " ");
        for (String[] barred : BARRED) {
            Matcher found = Pattern.compile(barred[1]).matcher(code);
            Check.due(barred[0], "", found.find() ? found.group() : "");
        }
        imports(code);
        throwing(code);
        Check.due("public members", 31, count(code, "\\bpublic\\b"));
        Check.due("rule 11: some twelve classes", 1, count(code, "\\bclass\\b") <= 12 ? 1 : 0);
        lengths(code);
        Check.finish();
    }

    private static void imports(String code) {
        Matcher found = Pattern.compile("import ([\\w.]+);").matcher(code);
        while (found.find()) {
            Check.due("rule 4", "java.util.Arrays", found.group(1));
        }
    }

    private static void throwing(String code) {
        Pattern allowed = Pattern.compile(
            "throw new (IndexOutOfBoundsException|IllegalArgumentException|IllegalStateException)\\(\"[^\"]*\"\\);");
        Check.due("rule 6", count(code, "\\bthrow\\b"), count(code, allowed.pattern()));
    }

    /** A method's first line has the one indentation, its last line is a brace of the same. */
    private static void lengths(String code) {
        String[] lines = code.split("\n");
        int start = -1;
        for (int i = 0; i < lines.length; i++) {
            if (lines[i].matches(" {4}( {4})?[a-zA-Z].*[({]") || lines[i].matches(" {4}( {4})?[a-zA-Z].*\\).*\\{")) {
                start = lines[i].contains(" class ") ? -1 : i;
            }
            if (start >= 0 && lines[i].matches(" {4}( {4})?}")) {
                Check.due("rule 11: lines of the method at " + (start + 1), 1, i - start <= 60 ? 1 : 0);
                start = -1;
            }
        }
    }

    private static int count(String code, String pattern) {
        Matcher found = Pattern.compile(pattern).matcher(code);
        int count = 0;
        while (found.find()) {
            count++;
        }
        return count;
    }
}
