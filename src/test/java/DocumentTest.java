import java.nio.file.Files;
import java.nio.file.Path;
import java.util.LinkedHashMap;
import java.util.List;
import java.util.Map;
import java.util.Set;

/** Every sentence that is tested stands in the document, and no sentence of the document is without a test. It is run where src stands. */
public final class DocumentTest {
    private static final Path DOCUMENT = Path.of("../shared/DOC.md");
    private static final List<String> SECTIONS_WITHOUT_SENTENCES = List.of("The public face", "Not promised");
    /** What only leads to a sentence, and promises nothing by itself. */
    private static final List<String> LEADS = List.of(
        "A kernel that reckons with great whole numbers for many jobs at once: memory of limbs in blocks that are halved and joined, "
            + "numbers by handles, jobs that take turns and do a bounded piece of work each, wait for room, hold their numbers fast, "
            + "and can be called off at any time. ======== 1 MEMORY",
        "======== 2 JOBS",
        "The operations, n, m, k being the sizes of a, b, m:");

    public static void main(String[] args) throws Exception {
        if (!Files.exists(DOCUMENT)) {
            System.out.println(DOCUMENT + " is not here: not compared");
            return;
        }
        Due due = new Due();
        Map<String, String> document = sections(Files.readString(DOCUMENT));
        for (Sentences part : List.of(new TermsTest(), new PromisesTest())) {
            part.sections().forEach((title, tests) -> compare(due, title, document.remove(title), tests.keySet()));
        }
        document.keySet().removeAll(SECTIONS_WITHOUT_SENTENCES);
        due.is("sections without a test", document.keySet().toString(), "[]");
        due.end();
    }

    /** The text below each heading, without what marks it up, its spaces made single ones. */
    private static Map<String, String> sections(String text) {
        Map<String, String> sections = new LinkedHashMap<>();
        for (String section : text.split("(?m)^## ")) {
            int end = section.indexOf('\n');
            String body = section.substring(end).replaceAll("```\\w*", " ").replaceAll("`[^`\n]*`:", " ");
            sections.put(section.substring(0, end).trim(), body.replaceAll("\\s+", " "));
        }
        sections.remove("# LimbKernel");
        return sections;
    }

    private static void compare(Due due, String title, String body, Set<String> sentences) {
        due.is(title + " is in the document", body != null, true);
        String left = body == null ? "" : body;
        int from = 0;
        for (String sentence : sentences) {
            int at = left.indexOf(sentence, from);
            due.is(title + " \"" + sentence + "\" is in the document, in this order", at >= 0, true);
            if (at >= 0) {
                left = left.substring(0, at) + "|" + left.substring(at + sentence.length());
                from = at;
            }
        }
        for (String lead : LEADS) {
            left = left.replace(lead, "|");
        }
        due.is(title + ": what has no test", left.replaceAll("[| ]", ""), "");
    }
}
