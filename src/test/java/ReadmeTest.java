import java.io.IOException;
import java.lang.reflect.Method;
import java.lang.reflect.Modifier;
import java.nio.charset.StandardCharsets;
import java.nio.file.Files;
import java.nio.file.Path;
import java.util.TreeSet;
import java.util.regex.Matcher;
import java.util.regex.Pattern;

/** The calls that README.md shows, run as they stand there, answer what stands behind them. */
public final class ReadmeTest {
    private static final Pattern BLOCK = Pattern.compile("```java\n(.*?)```", Pattern.DOTALL);
    private static final Pattern CALL = Pattern.compile("x\\.(\\w+)\\((.*)\\); +// (-?\\d+)(:.*)?");
    private static int wrong = 0;

    private static void tell(String what) {
        wrong++;
        System.out.println("README.md: " + what);
    }

    private static int number(String text) {
        return text.startsWith("'") ? text.charAt(1) : Integer.parseInt(text);
    }

    private static long call(SoldMatches x, String name, String inside) throws ReflectiveOperationException {
        String[] texts = inside.isEmpty() ? new String[0] : inside.split(", ");
        Class<?>[] types = new Class<?>[texts.length];
        Object[] values = new Object[texts.length];
        for (int i = 0; i < texts.length; i++) {
            types[i] = int.class;
            values[i] = number(texts[i]);
        }
        return ((Number) SoldMatches.class.getMethod(name, types).invoke(x, values)).longValue();
    }

    private static TreeSet<String> namesOfFace() {
        TreeSet<String> names = new TreeSet<>();
        for (Method m : SoldMatches.class.getDeclaredMethods()) {
            if (Modifier.isPublic(m.getModifiers())) {
                names.add(m.getName());
            }
        }
        return names;
    }

    public static void main(String[] args) throws IOException, ReflectiveOperationException {
        Matcher block = BLOCK.matcher(Files.readString(Path.of("README.md"), StandardCharsets.UTF_8));
        String shown = block.find() ? block.group(1) : "";
        TreeSet<String> unseen = namesOfFace();
        SoldMatches x = new SoldMatches();
        int calls = 0;
        for (String line : shown.split("\n")) {
            Matcher m = CALL.matcher(line);
            if (m.matches()) {
                calls++;
                unseen.remove(m.group(1));
                long got = call(x, m.group(1), m.group(2));
                if (got != Long.parseLong(m.group(3))) {
                    tell(line + " answered " + got);
                }
            } else if (!line.isEmpty() && !line.startsWith("//") && !line.equals("SoldMatches x = new SoldMatches();")) {
                tell("a line that can not be run: " + line);
            }
        }
        if (!unseen.isEmpty()) {
            tell("calls that are not shown: " + unseen);
        }
        System.out.println(calls + " calls of README.md, " + wrong + " are not as due");
        if (wrong != 0) {
            System.exit(1);
        }
    }
}
