import java.io.IOException;
import java.nio.file.Files;
import java.nio.file.Path;
import java.util.List;
import java.util.Set;
import java.util.regex.Matcher;
import java.util.regex.Pattern;

/** The words of LANGUAGE.md's rules that can be seen in the text of the program; run from the project's folder. */
final class LanguageTest {
    private static final Path SOURCE = Path.of("src/main/java/Obligary.java");
    private static final String[] FORBIDDEN = {
        "(?m)^(?! *(case|default)\\b).*->", "::", "(?m)^package\\b", "\\bfinally\\b", "\\bsynchronized\\b",
        "\\bassert\\b", "Exact\\(", "\\bSystem\\.(?!arraycopy)", "\\bstatic \\{", "\" \\+", "\\+ \""};
    private static final Set<String> IMPORTS = Set.of("java.util.ArrayList", "java.util.Arrays", "java.util.Iterator",
            "java.util.List", "java.util.NoSuchElementException");
    // What the machine throws, by its own name or by a class above it, is not caught.
    private static final String CAUGHT =
            "catch \\((?!(IllegalState|IllegalArgument|UnsupportedOperation|NoSuchElement)Exception)";
    private static final int LONGEST_METHOD = 60;

    public static void main(String[] args) throws IOException {
        String code = Files.readString(SOURCE).replaceAll("(?s)/\\*.*?\\*/", "").replaceAll("//[^\n]*", "");
        for (String word : FORBIDDEN) {
            Check.due("the program holds " + word, Pattern.compile(word).matcher(code).find(), false);
        }
        Matcher imported = Pattern.compile("import ([^;]+);").matcher(code);
        while (imported.find()) {
            Check.due("import of " + imported.group(1), IMPORTS.contains(imported.group(1)), true);
        }
        Matcher thrown = Pattern.compile("throw (?!new \\w+Exception\\((\"[^\"]*\")?\\);)").matcher(code);
        Check.due("a throw of another form", thrown.find(), false);
        Check.due("a catch of what the machine throws", Pattern.compile(CAUGHT).matcher(code).find(), false);
        methodsAreShort(Files.readAllLines(SOURCE));
        Check.end();
    }

    private static void methodsAreShort(List<String> lines) {
        for (String indent : new String[] {"    ", "        "}) {
            int start = 0;
            for (int i = 0; i < lines.size(); i++) {
                String line = lines.get(i);
                if (line.matches(indent + "\\S.*\\) .*\\{") || line.matches(indent + "\\S.*\\) \\{")) {
                    start = i;
                } else if (line.equals(indent + "}")) {
                    Check.due("a method of over " + LONGEST_METHOD + " lines ends in line " + (i + 1),
                            start > 0 && i - start > LONGEST_METHOD, false);
                    start = 0;
                }
            }
        }
    }
}
