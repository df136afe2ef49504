import java.io.IOException;
import java.lang.reflect.Method;
import java.nio.file.Files;
import java.nio.file.Path;
import java.util.ArrayList;
import java.util.List;
import java.util.stream.Stream;

/** That each sentence of the document, from its Terms to its last promise, has a test in one of the classes ..BoundsTest. */
public final class SentencesTest {
    private static final Check CHECK = new Check("SentencesTest");
    private static final int PROMISES = 35;

    public static void main(String[] args) throws Exception {
        String document = Sentences.document();
        int terms = document.indexOf("## Terms");
        int first = startOf(document, 1);
        List<Method> tests = tests();
        covered("the Terms", document.substring(terms, first), tests);
        for (int promise = 1; promise <= PROMISES; promise++) {
            List<Method> own = new ArrayList<>();
            for (Method test : tests) {
                if (test.getAnnotation(Sentence.class).promise() == promise) {
                    own.add(test);
                }
            }
            int end = promise < PROMISES ? startOf(document, promise + 1) : document.indexOf("## Not promised");
            covered("Promise " + promise, document.substring(startOf(document, promise), end), own);
        }
        CHECK.end();
    }

    private static int startOf(String document, int promise) {
        return document.indexOf("## Promise " + promise + ":");
    }

    private static List<Method> tests() throws IOException, ClassNotFoundException {
        List<Method> tests = new ArrayList<>();
        try (Stream<Path> files = Files.list(Path.of("src/test/java"))) {
            for (Path file : files.sorted().toList()) {
                String name = file.getFileName().toString();
                if (name.endsWith("BoundsTest.java")) {
                    tests.addAll(Sentences.of(Class.forName(name.replace(".java", ""))));
                }
            }
        }
        return tests;
    }

    /** What no test quotes has neither a letter nor a digit, but for headings, the method's face, and words that join. */
    private static void covered(String part, String text, List<Method> tests) {
        StringBuilder left = new StringBuilder(text);
        for (Method test : tests) {
            String says = test.getAnnotation(Sentence.class).says();
            for (int at = text.indexOf(says); at >= 0; at = text.indexOf(says, at + 1)) {
                for (int i = at; i < at + says.length(); i++) {
                    left.setCharAt(i, '~');
                }
            }
        }
        String rest = left.toString().replaceAll("## (Terms|Promise \\d+: [A-Za-z ]+?) (?=`|A TEXT|~)", "").replaceAll("`[^`]*\\)`:", "")
            .replaceAll("```(text)?", "").replaceAll("==== I+V?\\.( A WEEK:)?", "").replaceAll("~+", "~");
        CHECK.alike(part + ": what no test quotes", rest.replaceAll("[^A-Za-z0-9]+", " ").trim(), "");
    }
}
