import java.lang.reflect.Constructor;
import java.lang.reflect.Field;
import java.lang.reflect.Method;
import java.lang.reflect.Modifier;
import java.nio.charset.StandardCharsets;
import java.nio.file.Files;
import java.nio.file.Path;
import java.util.Set;
import java.util.TreeSet;
import java.util.regex.Matcher;
import java.util.regex.Pattern;

/** The public face: just what the document tells, and nothing else that can be seen from outside. */
public final class FaceTest {
    private static final Check CHECK = new Check("FaceTest");

    public static void main(String[] args) throws Exception {
        String document = Files.readString(Path.of("../shared/DOC.md"), StandardCharsets.ISO_8859_1);
        Matcher block = Pattern.compile("```java\n(.*?)```", Pattern.DOTALL).matcher(document);
        CHECK.due("the document tells a face", block.find(), true);
        Set<String> told = new TreeSet<>();
        Matcher method = Pattern.compile("public (\\w+) (\\w+)\\(([^)]*)\\);").matcher(block.group(1));
        while (method.find()) {
            told.add(method.group(1) + " " + method.group(2) + "(" + method.group(3).replaceAll(" \\w+(,|$)", "$1").replace(" ", "") + ")");
        }
        CHECK.due("methods told", told.size(), 34);
        CHECK.alike("public methods", shown().toString(), told.toString());
        CHECK.due("modifiers of the class", ThimbleSea.class.getModifiers(), Modifier.PUBLIC | Modifier.FINAL);
        CHECK.due("constructors", ThimbleSea.class.getDeclaredConstructors().length, 1);
        for (Constructor<?> constructor : ThimbleSea.class.getDeclaredConstructors()) {
            CHECK.due("modifiers of " + constructor, constructor.getModifiers(), Modifier.PUBLIC);
            CHECK.due("parameters of " + constructor, constructor.getParameterCount(), 0);
        }
        for (Field field : ThimbleSea.class.getDeclaredFields()) {
            boolean none = field.getName().equals("NONE");
            CHECK.due("modifiers of " + field.getName(), Modifier.isPrivate(field.getModifiers()), !none);
            if (none) {
                CHECK.due("modifiers of NONE", field.getModifiers(), Modifier.PUBLIC | Modifier.STATIC | Modifier.FINAL);
                CHECK.alike("type of NONE", field.getType().getName(), "int");
            }
        }
        CHECK.due("NONE", ThimbleSea.NONE, -1);
        CHECK.end();
    }

    private static Set<String> shown() {
        Set<String> shown = new TreeSet<>();
        for (Method method : ThimbleSea.class.getDeclaredMethods()) {
            if (Modifier.isPrivate(method.getModifiers())) {
                continue;
            }
            StringBuilder parameters = new StringBuilder();
            for (Class<?> type : method.getParameterTypes()) {
                parameters.append(parameters.length() > 0 ? "," : "").append(type.getName());
            }
            boolean isPlain = method.getModifiers() == Modifier.PUBLIC;
            shown.add((isPlain ? "" : "not public alone: ") + method.getReturnType().getName() + " " + method.getName() + "(" + parameters + ")");
        }
        return shown;
    }
}
