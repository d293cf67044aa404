import java.io.IOException;
import java.lang.reflect.Method;
import java.lang.reflect.Modifier;
import java.nio.charset.StandardCharsets;
import java.nio.file.Files;
import java.nio.file.Path;
import java.util.Map;
import java.util.TreeMap;
import java.util.regex.Matcher;
import java.util.regex.Pattern;

/** What README.md shows of the class is so: its calls, in their order, answer what stands behind them. */
public final class ReadmeTests {
    private static final Pattern CALL = Pattern.compile(" +x\\.(\\w+)\\(([-0-9, ]*)\\); +// (-?\\d+): .*");
    private static final Pattern TAPE = Pattern.compile(" +for \\(char c : \"(.*)\"\\.toCharArray\\(\\)\\) \\{");
    private static int wrong = 0;

    public static void main(String[] args) throws IOException, ReflectiveOperationException {
        Map<String, Method> face = new TreeMap<>();
        for (Method m : LampVote.class.getDeclaredMethods()) {
            if (Modifier.isPublic(m.getModifiers())) {
                face.put(m.getName(), m);
            }
        }
        String text = Files.readString(Path.of("README.md"), StandardCharsets.UTF_8);
        int made = follow(text.split("\n"), face);
        must(made > 10, "the page's calls were found: " + made);
        for (String name : face.keySet()) {
            must(text.contains("`" + name + "`"), "the page names " + name);
        }
        for (Path test : Files.newDirectoryStream(Path.of("src/test/java"), "*.java")) {
            must(text.contains("`src/test/java/" + test.getFileName() + "`"), "the page names " + test);
        }
        System.out.println(wrong == 0 ? "ReadmeTests: the page tells what is so" : wrong + " faults");
        if (wrong != 0) {
            System.exit(1);
        }
    }

    private static int follow(String[] lines, Map<String, Method> face) throws ReflectiveOperationException {
        LampVote x = new LampVote();
        int made = 0;
        for (String line : lines) {
            Matcher tape = TAPE.matcher(line);
            if (tape.matches()) {
                for (char c : tape.group(1).toCharArray()) {
                    x.feed(c);
                }
            }
            Matcher call = CALL.matcher(line);
            if (call.matches()) {
                made++;
                long got = answer(x, face.get(call.group(1)), call.group(2));
                must(got == Long.parseLong(call.group(3)), line.trim() + " - but it answers " + got);
            } else {
                must(!line.startsWith("    x."), "an answer stands behind " + line.trim());
            }
        }
        return made;
    }

    private static long answer(LampVote x, Method call, String told) throws ReflectiveOperationException {
        String[] numbers = told.isEmpty() ? new String[0] : told.split(", *");
        Object[] arguments = new Object[numbers.length];
        for (int i = 0; i < numbers.length; i++) {
            arguments[i] = Integer.parseInt(numbers[i]);
        }
        return ((Number) call.invoke(x, arguments)).longValue();
    }

    private static void must(boolean so, String what) {
        if (!so) {
            wrong++;
            System.out.println("not so: " + what);
        }
    }
}
