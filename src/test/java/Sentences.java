import java.io.IOException;
import java.lang.reflect.InvocationTargetException;
import java.lang.reflect.Method;
import java.nio.charset.StandardCharsets;
import java.nio.file.Files;
import java.nio.file.Path;
import java.util.ArrayList;
import java.util.Comparator;
import java.util.List;

/** Runs the tests of a class, one a sentence of the document; each is named p, the promise's number in two digits, _ and more. */
final class Sentences {
    private Sentences() { }

    /** Ends the program with exit code 1 if a test failed, asked for nothing, or quotes what the document does not say. */
    static void run(Class<?> tests) throws IOException, ReflectiveOperationException {
        String document = document();
        int asked = 0;
        int failed = 0;
        List<Method> methods = of(tests);
        for (Method method : methods) {
            Sentence sentence = method.getAnnotation(Sentence.class);
            String name = "Promise " + sentence.promise() + ", " + method.getName() + ", \"" + sentence.says() + "\"";
            Check check = new Check(name);
            check.due("the test's name begins with the promise's number",
                method.getName().startsWith(String.format("p%02d_", sentence.promise())), true);
            check.due("the document says so", document.contains(sentence.says()), true);
            int before = check.asked();
            ask(method, check);
            check.due("the test asks for something", check.asked() > before, true);
            asked += check.asked();
            failed += check.wrong() > 0 ? 1 : 0;
        }
        System.out.println(tests.getName() + ": " + methods.size() + " sentences, " + asked + " answers, " + failed + " sentences failed");
        if (failed > 0 || methods.isEmpty()) {
            System.exit(1);
        }
    }

    private static void ask(Method method, Check check) throws ReflectiveOperationException {
        try {
            method.invoke(null, check);
        } catch (InvocationTargetException thrown) {
            check.alike("it throws", String.valueOf(thrown.getCause()), "nothing");
        }
    }

    static List<Method> of(Class<?> tests) {
        List<Method> methods = new ArrayList<>();
        for (Method method : tests.getDeclaredMethods()) {
            if (method.isAnnotationPresent(Sentence.class)) {
                method.setAccessible(true);
                methods.add(method);
            }
        }
        methods.sort(Comparator.comparing(Method::getName));
        return methods;
    }

    /** With one blank in place of any more, and of ends of lines. */
    static String document() throws IOException {
        return Files.readString(Path.of("../shared/DOC.md"), StandardCharsets.ISO_8859_1).replaceAll("\\s+", " ");
    }
}
