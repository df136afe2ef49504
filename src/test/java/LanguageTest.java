import java.nio.charset.StandardCharsets;
import java.nio.file.Files;
import java.nio.file.Path;
import java.util.ArrayList;
import java.util.List;
import java.util.Set;
import java.util.TreeSet;
import java.util.regex.Matcher;
import java.util.regex.Pattern;

/** What of ../shared/LANGUAGE.md can be seen in the program's text. */
public final class LanguageTest {
    private static final Check CHECK = new Check("LanguageTest");
    private static final Pattern METHOD = Pattern.compile(
        "^ {4,8}(?:(public|private) )?(?:static )?(?:final )?(?:[\\w\\[\\]]+ )?(\\w+)\\(([^)]*)\\) \\{$");

    public static void main(String[] args) throws Exception {
        byte[] bytes = Files.readAllBytes(Path.of("src/main/java/ThimbleSea.java"));
        for (byte b : bytes) {
            CHECK.due("a sign of the program's text is from 1 to 127", b > 0, true);
        }
        String text = new String(bytes, StandardCharsets.US_ASCII);
        String code = text.replaceAll("(?s)/\\*.*?\\*/", "").replaceAll("//[^\n]*", "");
        words(code.replaceAll("\"[^\"\n]*\"", "\"\"").replaceAll("'[^'\n]+'", "' '"));
        methods(text);
        classes(code);
        CHECK.end();
    }

    private static void words(String code) {
        for (String word : new String[] {"throw", "try", "catch", "finally", "synchronized", "assert", "import", "package",
            "throws", "yield", "interface", "goto", "var", "Math\\.\\w+Exact", "->", "::", "@\\w+", "protected", "hashCode", "toString",
            "System\\.(?!arraycopy)", "\"\" \\+", "\\+ \"\"", "Object", "Exception", "Error", "volatile", "transient", "native"}) {
            String bounded = Character.isLetter(word.charAt(0)) ? "\\b" + word : word;
            bounded = Character.isLetter(word.charAt(word.length() - 1)) ? bounded + "\\b" : bounded;
            Matcher m = Pattern.compile(bounded).matcher(code);
            CHECK.due("the program has " + word, m.find(), false);
        }
        for (String line : code.split("\n")) {
            boolean isField = line.matches(" {4,8}(private )?static .*;") && !line.contains("(");
            CHECK.due("a static field is final: " + line, !isField || line.contains("static final "), true);
        }
    }

    private static void methods(String text) {
        Set<String> shown = new TreeSet<>();
        List<String> hidden = new ArrayList<>();
        String[] lines = text.split("\n");
        for (int i = 0; i < lines.length; i++) {
            Matcher m = METHOD.matcher(lines[i]);
            if (!m.matches()) {
                continue;
            }
            String name = m.group(2);
            String indent = lines[i].startsWith("        ") ? "        " : "    ";
            int end = i;
            while (!lines[end].equals(indent + "}")) {
                end++;
            }
            CHECK.due(name + " has at most 60 lines", end - i + 1 <= 60, true);
            CHECK.due(name + " has at most seven parameters", m.group(3).split(",").length <= 7, true);
            if ("public".equals(m.group(1))) {
                CHECK.due(name + " is of the face", indent.length(), 4);
                shown.add(name);
            } else {
                CHECK.due(name + " is private or in a class inside", "private".equals(m.group(1)) || indent.length() == 8, true);
                hidden.add(name);
            }
        }
        CHECK.due("public methods and the constructor", shown.size(), 35);
        for (String name : hidden) {
            CHECK.due(name + " bears no public name", shown.contains(name), false);
        }
    }

    private static void classes(String code) {
        int classes = 0;
        int fields = 0;
        for (String line : code.split("\n")) {
            if (line.matches(".*\\bclass \\w+ \\{")) {
                classes++;
                fields = 0;
                CHECK.due("a class is public and outside, or private and static: " + line,
                    line.startsWith("public final class") || line.startsWith("    private static final class"), true);
            } else if (line.matches(" {4,8}(private |final )*[\\w\\[\\]]+ \\w+ = .*;") && !line.contains(" static ")
                && !line.matches(" {8,}(?:int|long|boolean|Laws|Plan|Sea) \\w+ = (?!0;|NONE|BASIN_UNTOLD|null).*;")) {
                fields++;
                CHECK.due("at most some twenty fields: " + line, fields <= 24, true);
            }
        }
        CHECK.due("at most some twelve classes", classes <= 12, true);
    }
}
