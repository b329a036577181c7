import java.nio.file.Files;
import java.nio.file.Path;
import java.util.regex.Matcher;
import java.util.regex.Pattern;

/** What can be told of LANGUAGE.md from the text of the class. It is run where src stands. */
public final class LanguageTest {
    private static final String[] FORBIDDEN = {
        "\\bpackage\\b", "->", "::", "\\btry\\b", "\\bcatch\\b", "\\bfinally\\b", "\\bthrow\\b", "\\bsynchronized\\b", "\\bassert\\b",
        "\\bprotected\\b", "\\bnull\\b", "\\bfloat\\b", "\\bdouble\\b", "Exact\\b", "\\bstatic \\{", "\\b(Thread|Random|Objects|Collections|HashMap)\\b",
        "System\\.(?!arraycopy\\b)", "Arrays\\.(?!fill\\b)", "Math\\.(?!(max|min)\\b)", "import (?!java\\.util\\.Arrays;)", "while \\(true\\)", "for \\(;",
    };
    private static final int MOST_LINES = 60;
    private static final int MOST_PARAMETERS = 7;
    private static final int MOST_CLASSES = 12;

    public static void main(String[] args) throws Exception {
        Due due = new Due();
        String source = Files.readString(Path.of("src/main/java/LimbKernel.java"));
        String code = source.replaceAll("(?s)/\\*.*?\\*/", "").replaceAll("//[^\n]*", "");
        for (String word : FORBIDDEN) {
            due.is("the class holds " + word, Pattern.compile(word).matcher(code).find(), false);
        }
        for (char letter : source.toCharArray()) {
            if (letter > 126) {
                due.is("a character beyond ASCII", letter, 0);
            }
        }
        due.is("too many classes", Pattern.compile("\\bclass \\w+ \\{").matcher(code).results().count() > MOST_CLASSES, false);
        methods(due, code);
        due.end();
    }

    private static void methods(Due due, String code) {
        Matcher head = Pattern.compile("(?m)^( +)[\\w\\[\\] ]*\\b(\\w+)\\(([^)]*)\\) \\{$").matcher(code);
        while (head.find()) {
            if (head.group(0).trim().matches("(if|for|while|switch|\\}).*")) {
                continue;
            }
            int end = code.indexOf("\n" + head.group(1) + "}", head.end());
            long lines = code.substring(head.start(), end).lines().count() + 1;
            due.is(head.group(2) + " is too long", lines > MOST_LINES, false);
            due.is(head.group(2) + " takes too much", head.group(3).split(",").length > MOST_PARAMETERS, false);
        }
    }
}
