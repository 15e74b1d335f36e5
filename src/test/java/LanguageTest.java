import java.nio.charset.StandardCharsets;
import java.nio.file.Files;
import java.nio.file.Path;
import java.util.regex.Matcher;
import java.util.regex.Pattern;

/** What can be seen in the text of the class of the rules it keeps to; it runs in the project's folder. */
public final class LanguageTest {
    private static final Check C = new Check("LanguageTest");
    private static final String[] NEVER = {
        "\\bimport\\b", "\\bpackage\\b", "\\bthrows?\\b", "\\btry\\b", "\\bcatch\\b", "\\bfinally\\b", "\\bassert\\b",
        "\\bsynchronized\\b", "\\binstanceof\\b", "->", "::", "@", "\"", "\\bSystem\\b", "\\bFloat\\b", "\\bDouble\\b",
        "Exact\\(", "\\bString\\b", "static \\{", "\\bvar\\b", "\\bint\\[\\]\\[\\]", "[^\\x00-\\x7f]"
    };

    public static void main(String[] args) throws Exception {
        byte[] bytes = Files.readAllBytes(Path.of("src/main/java/FairBooks.java"));
        String text = new String(bytes, StandardCharsets.UTF_8).replaceAll("(?s)/\\*.*?\\*/", "").replaceAll("//.*", "");
        for (String never : NEVER) {
            C.due("how often there is " + never, 0, find(never, text));
        }
        C.due("public classes", 1, find("\\bpublic final class\\b", text));
        C.due("classes inside", find("\\bclass\\b", text) - 1, find("private static final class\\b", text));
        C.due("static fields that are not final", 0, find("\\bstatic (?!final)[^(]*;", text));
        C.due("arrays and objects made outside of fields and constructors", find("\\bnew\\b", text),
            find("private (final )?\\w+(\\[\\])? \\w+ = new\\b", text) + find("(?m)^        (now|trial|history|orders|bench|bestTrade) = new\\b", text));
        C.end();
    }

    private static int find(String pattern, String text) {
        Matcher m = Pattern.compile(pattern).matcher(text);
        int found = 0;
        while (m.find()) {
            found++;
        }
        return found;
    }
}
