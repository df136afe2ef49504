import java.io.IOException;
import java.io.PrintWriter;
import java.io.StringWriter;
import java.nio.file.Files;
import java.nio.file.Path;
import java.util.ArrayDeque;
import java.util.ArrayList;
import java.util.Deque;
import java.util.List;
import java.util.Map;
import java.util.Optional;
import java.util.Set;
import java.util.TreeMap;
import java.util.TreeSet;
import java.util.regex.Matcher;
import java.util.regex.Pattern;
import java.util.spi.ToolProvider;
import java.util.stream.Stream;

/** Rules 4, 8 and 11 of ../shared/LANGUAGE.md by the compiled program: what it calls of the library, and how deep its calls go. */
public final class CallsTest {
    private static final Check CHECK = new Check("CallsTest");
    private static final int DEPTH_MOST = 8;
    private static final Set<String> LIBRARY = Set.of("java/lang/Object.<init>", "java/lang/Math.max", "java/lang/Math.min",
        "java/lang/Integer.bitCount", "java/lang/String.charAt", "java/lang/String.indexOf", "java/lang/String.length",
        "java/lang/System.arraycopy");
    private static final Set<String> RECURSIONS = Set.of("ThimbleSea$Reader.sum", "ThimbleSea$Reader.unit", "ThimbleSea$Rows.fillFrom");
    private static final Pattern CLASS = Pattern.compile("(?:\\w+ )*class (\\S+).*\\{");
    private static final Pattern METHOD = Pattern.compile("  (?:[\\w$.\\[\\]]+ )*([\\w$]+)\\(.*\\);");
    private static final Pattern CALL = Pattern.compile(".*: invoke\\w+ .*// (?:Interface)?Method (\\S+?):.*");

    private static final Map<String, Set<String>> CALLS = new TreeMap<>();

    public static void main(String[] args) throws IOException {
        Optional<ToolProvider> javap = ToolProvider.findFirst("javap");
        if (javap.isEmpty()) {
            System.out.println("CallsTest: this machine has no javap, so the calls can't be looked at");
            return;
        }
        note(shown(javap.get()));
        CHECK.due("methods are seen", CALLS.size() > 100, true);
        for (Map.Entry<String, Set<String>> entry : CALLS.entrySet()) {
            for (String called : entry.getValue()) {
                CHECK.due(entry.getKey() + " calls " + called, CALLS.containsKey(called) || LIBRARY.contains(called), true);
            }
            CHECK.due(entry.getKey() + " calls itself", reaches(entry.getKey(), entry.getKey()), RECURSIONS.contains(entry.getKey()));
            int depth = depth(entry.getKey(), new ArrayDeque<>());
            CHECK.due(entry.getKey() + " goes " + depth + " deep", depth <= DEPTH_MOST, true);
        }
        CHECK.end();
    }

    private static String shown(ToolProvider javap) throws IOException {
        List<String> arguments = new ArrayList<>(List.of("-c", "-p"));
        Path directory = Path.of(System.getProperty("java.class.path"));
        try (Stream<Path> files = Files.list(directory)) {
            for (Path file : files.sorted().toList()) {
                if (file.getFileName().toString().matches("ThimbleSea(\\$\\w+)?\\.class")) {
                    arguments.add(file.toString());
                }
            }
        }
        StringWriter text = new StringWriter();
        PrintWriter out = new PrintWriter(text);
        javap.run(out, out, arguments.toArray(new String[0]));
        out.flush();
        return text.toString();
    }

    /** Methods of one name are taken as one. */
    private static void note(String shown) {
        String owner = "";
        String method = "";
        for (String line : shown.split("\\R")) {
            Matcher ofClass = CLASS.matcher(line);
            Matcher ofMethod = METHOD.matcher(line);
            Matcher ofCall = CALL.matcher(line);
            if (ofClass.matches()) {
                owner = ofClass.group(1);
            } else if (ofMethod.matches()) {
                method = owner + "." + (ofMethod.group(1).equals(owner) ? "<init>" : ofMethod.group(1));
                CALLS.putIfAbsent(method, new TreeSet<>());
            } else if (ofCall.matches()) {
                String called = ofCall.group(1).replace("\"", "");
                CALLS.get(method).add(called.contains(".") ? called : owner + "." + called);
            }
        }
    }

    private static boolean reaches(String from, String to) {
        Set<String> seen = new TreeSet<>();
        Deque<String> open = new ArrayDeque<>(CALLS.get(from));
        while (!open.isEmpty()) {
            String method = open.pop();
            if (method.equals(to)) {
                return true;
            }
            if (seen.add(method)) {
                open.addAll(CALLS.getOrDefault(method, Set.of()));
            }
        }
        return false;
    }

    /** A recursion counts with each of its methods once. */
    private static int depth(String method, Deque<String> above) {
        if (above.contains(method)) {
            return 0;
        }
        above.push(method);
        int deepest = 0;
        for (String called : CALLS.getOrDefault(method, Set.of())) {
            if (CALLS.containsKey(called)) {
                deepest = Math.max(deepest, depth(called, above));
            }
        }
        above.pop();
        return deepest + 1;
    }
}
