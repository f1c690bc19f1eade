import java.nio.file.Files;
import java.nio.file.Path;
import java.util.regex.Matcher;
import java.util.regex.Pattern;

/** What of LANGUAGE.md can be seen in the text of the class. */
public final class LanguageTest {
    private static final String[] BANNED = {
        "\\bthrow\\b", "\\bthrows\\b", "\\btry\\b", "\\bcatch\\b", "\\bfinally\\b",
        "\\bsynchronized\\b", "\\bassert\\b", "\\bpackage\\b", "\\bprotected\\b", "\\bnative\\b",
        "\\bvolatile\\b", "->", "::", "\\bObject\\b", "\\bhashCode\\b", "\\btoString\\b",
        "\\bgetClass\\b", "\\w+Exact\\b", "\\bThread\\b", "\\bException\\b", "\\bRandom\\b",
        "\\bSystem\\.(?!arraycopy\\b)\\w+", "\\bArrays\\.(?!fill\\b|copyOf\\b|copyOfRange\\b)\\w+",
        "\\[\\s*\\]\\s*\\[\\s*\\]\\s*\\[", "\\bstatic\\s*\\{", "\\bvar\\b", "@\\w+",
    };

    public static void main(String[] args) throws Exception {
        Due due = new Due("LanguageTest");
        String source = System.getenv("DUNCESEE_SOURCE");
        String whole = Files.readString(Path.of(source == null
            ? "src/main/java/DunceSee.java" : source));
        due.holds("only plain signs", whole.matches("[\\n\\x20-\\x7e]*"));
        String code = whole.replaceAll("(?s)/\\*.*?\\*/", "").replaceAll("//[^\\n]*", "");
        for (String banned : BANNED) {
            Matcher found = Pattern.compile(banned).matcher(code);
            due.holds("no " + banned, !found.find());
        }
        imports(due, code);
        lengths(due, code);
        due.end();
    }

    private static void imports(Due due, String code) {
        Matcher found = Pattern.compile("\\bimport\\s+([^;]+);").matcher(code);
        while (found.find()) {
            due.holds("import of " + found.group(1), found.group(1)
                .matches("java\\.util\\.(Arrays|ArrayList|List|Iterator)"));
        }
        due.holds("no library by its whole name",
            !code.replaceAll("\\bimport\\s+[^;]+;", "").contains("java."));
    }

    /** A method begins where a line ends in ") {" at the depth of a class. */
    private static void lengths(Due due, String code) {
        String[] lines = code.split("\n");
        int begin = -1;
        String indent = "";
        for (int i = 0; i < lines.length; i++) {
            Matcher head = Pattern.compile("^( {4}| {8})(?:[a-z]\\w*[\\w\\[\\] ]* )?\\w+\\([^)]*\\) \\{$")
                .matcher(lines[i]);
            if (begin < 0 && head.find() && !lines[i].trim().matches("(if|for|while|switch)\\b.*")) {
                begin = i;
                indent = head.group(1);
            } else if (begin >= 0 && lines[i].equals(indent + "}")) {
                due.holds("at most sixty lines: " + lines[begin].trim(), i - begin < 60);
                begin = -1;
            }
        }
        due.holds("the last method ends", begin < 0);
    }
}
