import java.io.File;
import java.io.IOException;
import java.lang.reflect.InvocationTargetException;
import java.lang.reflect.Method;
import java.lang.reflect.Modifier;
import java.nio.file.Files;
import java.nio.file.Path;
import java.util.ArrayList;
import java.util.HashMap;
import java.util.List;
import java.util.Map;
import java.util.Set;
import java.util.TreeSet;
import java.util.regex.Matcher;
import java.util.regex.Pattern;

/** README.md: its example answers what it says, its tables are whole, its commands run; run from the project's folder. */
final class ReadmeTest {
    private static final Path README = Path.of("README.md");
    private static final Path TESTS = Path.of("src/test/java");
    private static final String MAKING = "Obligary calendar = new Obligary();";
    /** A call, its answer or what it throws, and then perhaps a reason. */
    private static final Pattern CALL = Pattern.compile(
            "(?:int (\\w+) = )?calendar\\.(\\w+)\\((.*)\\); // (true|false|-?\\d+|throws \\w+)(?:: .*)?");

    private static final Obligary calendar = new Obligary();
    private static final Map<String, Integer> numbers = new HashMap<>();

    public static void main(String[] args) throws Exception {
        String text = Files.readString(README);
        example(blocks(text, "java"));
        calls(text);
        tests(text);
        commands(blocks(text, ""));
        Check.end();
    }

    private static List<String> blocks(String text, String language) {
        List<String> lines = new ArrayList<>();
        Matcher block = Pattern.compile("(?ms)^```(\\w*)\n(.*?)^```$").matcher(text);
        while (block.find()) {
            if (block.group(1).equals(language)) {
                lines.addAll(block.group(2).lines().toList());
            }
        }
        return lines;
    }

    private static void example(List<String> lines) throws ReflectiveOperationException {
        Check.sentence("README: the example answers what its comments say");
        Check.due("the example makes a calendar first", !lines.isEmpty() && lines.get(0).equals(MAKING), true);
        for (String line : lines) {
            Matcher call = CALL.matcher(line);
            if (call.matches()) {
                String answer = answer(call);
                Check.due(line + " answered " + answer + ": as it says", answer.equals(call.group(4)), true);
            } else {
                Check.due(line + " can be read", line.equals(MAKING) || line.startsWith("// "), true);
            }
        }
    }

    private static String answer(Matcher call) throws ReflectiveOperationException {
        String[] words = call.group(3).isEmpty() ? new String[0] : call.group(3).split(", ");
        Object[] values = new Object[words.length];
        Class<?>[] types = new Class<?>[words.length];
        for (int i = 0; i < words.length; i++) {
            values[i] = number(words[i]);
            types[i] = int.class;
        }
        Method method = Obligary.class.getMethod(call.group(2), types);
        try {
            String answer = method.invoke(calendar, values).toString();
            if (call.group(1) != null) {
                numbers.put(call.group(1), Integer.valueOf(answer));
            }
            return answer;
        } catch (InvocationTargetException e) {
            return "throws " + e.getCause().getClass().getSimpleName();
        }
    }

    private static int number(String word) throws ReflectiveOperationException {
        if (word.startsWith("Obligary.")) {
            return Obligary.class.getField(word.substring("Obligary.".length())).getInt(null);
        }
        Integer named = numbers.get(word);
        return named != null ? named : Integer.parseInt(word);
    }

    private static void calls(String text) {
        Check.sentence("README: each call of the face stands in its table");
        for (Method method : Obligary.class.getDeclaredMethods()) {
            if (Modifier.isPublic(method.getModifiers())) {
                Check.due(method.getName() + " is named", text.contains("`" + method.getName() + "`"), true);
            }
        }
    }

    private static void tests(String text) throws IOException {
        Check.sentence("README: the table of tests names each test, and no other");
        Set<String> named = new TreeSet<>();
        Matcher row = Pattern.compile("(?m)^\\| (\\w+Test(?:, \\w+Test)*) \\|").matcher(text);
        while (row.find()) {
            named.addAll(List.of(row.group(1).split(", ")));
        }
        Set<String> there = new TreeSet<>();
        for (File file : TESTS.toFile().listFiles()) {
            if (file.getName().endsWith("Test.java")) {
                there.add(file.getName().replace(".java", ""));
            }
        }
        Check.due("named are " + named + ", there are " + there, named.equals(there), true);
    }

    private static void commands(List<String> lines) throws IOException, InterruptedException {
        Check.sentence("README: its commands run");
        Check.due("there are commands", lines.size() >= 2, true);
        for (String line : lines) {
            String[] words = line.split(" ");
            if (words[0].equals("java")) {
                Process process = new ProcessBuilder(words).redirectErrorStream(true).start();
                process.getInputStream().readAllBytes();
                Check.due(line, process.waitFor(), 0);
            } else {
                // This one runs this test, so it is only looked at.
                Check.due(line + " is a script", Files.isExecutable(Path.of(words[0])), true);
            }
        }
    }
}
