import java.io.IOException;
import java.nio.charset.StandardCharsets;
import java.nio.file.Files;
import java.nio.file.Path;
import java.util.Map;
import java.util.TreeMap;
import java.util.regex.Matcher;
import java.util.regex.Pattern;

/** Those rules of LANGUAGE.md that a look at the text of the program can tell. */
public final class LanguageTest {
    private static final String SOURCE = "src/main/java/SoldMatches.java";
    private static int wrong = 0;

    private static void wrongAt(int line, String what) {
        wrong++;
        System.out.println(SOURCE + ":" + line + ": " + what);
    }

    /** The text with comments and the insides of constants blanked out, its lines kept. */
    private static String bare(String text) {
        Matcher m = Pattern.compile("/\\*.*?\\*/|//[^\n]*|\"(\\\\.|[^\"\\\\])*\"|'(\\\\.|[^'\\\\])'", Pattern.DOTALL).matcher(text);
        return m.replaceAll(r -> Matcher.quoteReplacement(r.group().replaceAll("[^\n]", " ")));
    }

    private static void refuse(String text, String pattern, String what) {
        Matcher m = Pattern.compile(pattern, Pattern.MULTILINE).matcher(text);
        while (m.find()) {
            wrongAt((int) text.substring(0, m.start()).chars().filter(c -> c == '\n').count() + 1, what);
        }
    }

    private static void checkWords(String text) {
        refuse(text, "^import (?!java\\.util\\.Arrays;)", "an import that is not needed");
        refuse(text, "^package ", "a package line");
        refuse(text, "\\b(throw|throws|try|catch|finally|synchronized|assert|double|float|volatile|native)\\b", "a word that is not used here");
        refuse(text, "->|::", "a lambda or a method reference");
        refuse(text, "\\.(equals|hashCode|toString|getClass|values|stream|format)\\(", "a call outside the list");
        refuse(text, "\\b(System|Thread|Random|Object|Character|Collections|Objects)\\b", "a class outside the list");
        refuse(text, "\\bMath\\.(?!max\\(|min\\(|abs\\()", "a function of Math that is not looked at");
        refuse(text, "\\w+Exact\\(", "a function whose name ends in Exact");
        refuse(text, "\\bstatic (?!final|boolean|int\\b|long\\b|void)", "static state");
        refuse(text, "\\bstatic (int|long|boolean)(\\[\\])* \\w+( =|;)", "a static field that is not final");
        refuse(text, "\\b(private|static|public|final)?[^\\n(]*\\((?:[^(),]+,){7,}[^(),]+\\) \\{", "more than seven parameters");
        refuse(text, "[^\\x00-\\x7e]", "a sign outside 1 to 127");
    }

    /** Objects are made with the object alone: in field initialisers and in its constructor. */
    private static void checkNew(String[] lines) {
        for (int i = 0; i < lines.length; i++) {
            if (lines[i].contains("new ") && !lines[i].matches("\\s+private final [\\w\\[\\]]+ \\w+ = new .*")
                    && !lines[i].matches("        \\w+ = new \\w+(\\(\\)|\\[\\w+\\]);")) {
                wrongAt(i + 1, "an object that a call makes");
            }
        }
    }

    private static void checkLengths(String[] lines) {
        int start = -1;
        String close = "";
        for (int i = 0; i < lines.length; i++) {
            Matcher m = Pattern.compile("^( {4}| {8})(?!.*\\b(class|if|for|while|switch|else|do)\\b)\\S.*\\) \\{$").matcher(lines[i]);
            if (start < 0 && m.find()) {
                start = i;
                close = m.group(1) + "}";
            } else if (start >= 0 && lines[i].equals(close)) {
                if (i - start > 60) {
                    wrongAt(start + 1, "a method of more than sixty lines");
                }
                start = -1;
            }
        }
    }

    /** The text of each method by its name; methods of one name are taken together. */
    private static Map<String, String> methods(String text) {
        Matcher m = Pattern.compile("^( {4}| {8})(?:(?:public|private|static) )*(?:int|long|boolean|void) (\\w+)\\([^)]*\\) \\{\n"
                + "(.*?)^\\1\\}$", Pattern.DOTALL | Pattern.MULTILINE).matcher(text);
        Map<String, String> found = new TreeMap<>();
        while (m.find()) {
            found.merge(m.group(2), m.group(3), String::concat);
        }
        return found;
    }

    /** How many calls stand open at once at most from a method on, itself and the library's counted. */
    private static int depth(Map<String, String> methods, String name, int open) {
        if (!methods.containsKey(name) || open > 20) {
            return 1;
        }
        int deepest = 0;
        Matcher m = Pattern.compile("\\b(?!(?:if|for|while|switch|return)\\b)(\\w+)\\(").matcher(methods.get(name));
        while (m.find()) {
            deepest = Math.max(deepest, depth(methods, m.group(1), open + 1));
        }
        return deepest + 1;
    }

    /** Methods that called themselves would go deeper than any bound here, so this finds recursion too. */
    private static void checkDepths(String text) {
        Map<String, String> methods = methods(text);
        if (methods.size() < 40) {
            wrongAt(1, "methods that this test can not see");
        }
        for (String name : methods.keySet()) {
            if (depth(methods, name, 1) > 8) {
                wrongAt(1, "calls more than eight deep from " + name);
            }
        }
    }

    public static void main(String[] args) throws IOException {
        String text = bare(Files.readString(Path.of(SOURCE), StandardCharsets.UTF_8));
        String[] lines = text.split("\n", -1);
        checkWords(text);
        checkNew(lines);
        checkLengths(lines);
        checkDepths(text);
        System.out.println(wrong == 0 ? "the language is kept" : wrong + " places are outside the language");
        if (wrong != 0) {
            System.exit(1);
        }
    }
}
