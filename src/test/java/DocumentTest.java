import java.lang.reflect.Method;
import java.nio.file.Files;
import java.nio.file.Path;
import java.util.ArrayList;
import java.util.Comparator;
import java.util.LinkedHashMap;
import java.util.List;
import java.util.Map;

/** Each sentence of the Terms and of the promises has a test that names it, and no test names one that is not there. */
public final class DocumentTest {
    private static final Path DOCUMENT = Path.of("../shared/DOC.md");
    private static final List<Class<?>> TESTS =
            List.of(TermsOneTest.class, TermsTwoTest.class, TermsThreeTest.class, PromisesTest.class);

    private static final Check CHECK = new Check("DocumentTest");

    public static void main(String[] args) throws Exception {
        Map<String, String> parts = parts(Files.readString(DOCUMENT));
        List<Sentence> sentences = sentences();
        for (Sentence sentence : sentences) {
            String part = parts.getOrDefault(sentence.under(), "");
            CHECK.due("\"" + sentence.words() + "\" is said under " + sentence.under(),
                    part.contains(sentence.words()), true);
        }
        for (Map.Entry<String, String> part : parts.entrySet()) {
            if (part.getKey().startsWith("I") || part.getKey().startsWith("Promise")) {
                CHECK.due("what no test names under " + part.getKey(), untested(part, sentences), "");
            }
        }
        CHECK.due("the document has all parts", parts.keySet().containsAll(List.of("I", "II", "III", "Promise 13")), true);
        CHECK.end();
    }

    /** By heading; the parts of the Terms by their numbers. */
    private static Map<String, String> parts(String document) {
        Map<String, String> parts = new LinkedHashMap<>();
        String heading = "";
        for (String line : document.lines().toList()) {
            if (line.startsWith("## ")) {
                heading = line.substring(3).replaceFirst(":.*", "");
                continue;
            }
            if (line.startsWith("==== ")) {
                heading = line.substring(5).replaceFirst("\\..*", "");
            }
            parts.merge(heading, line.strip() + "\n", String::concat);
        }
        return parts;
    }

    /** The longest first, so that one which is a part of another does not break that. */
    private static List<Sentence> sentences() {
        List<Sentence> sentences = new ArrayList<>();
        for (Class<?> test : TESTS) {
            for (Method method : Sentences.of(test)) {
                sentences.add(method.getAnnotation(Sentence.class));
            }
        }
        sentences.sort(Comparator.comparing(sentence -> -sentence.words().length()));
        return sentences;
    }

    /** What is left without the sentences that tests name, without titles, fences and the methods' heads. */
    private static String untested(Map.Entry<String, String> part, List<Sentence> sentences) {
        String left = part.getValue();
        for (Sentence sentence : sentences) {
            if (sentence.under().equals(part.getKey())) {
                left = left.replace(sentence.words(), "");
            }
        }
        String titles = "==== I+\\.( [A-Z]+\\.)?";
        String fences = "```(text)?";
        String heads = "`[^`]*`:";
        return left.replaceAll(titles, "").replaceAll(fences, "").replaceAll(heads, "").strip();
    }
}
