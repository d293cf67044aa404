import java.io.IOException;
import java.lang.reflect.Constructor;
import java.lang.reflect.Field;
import java.lang.reflect.Method;
import java.lang.reflect.Modifier;
import java.nio.charset.StandardCharsets;
import java.nio.file.Files;
import java.nio.file.Path;
import java.util.List;
import java.util.Set;
import java.util.TreeSet;
import java.util.regex.Matcher;
import java.util.regex.Pattern;

/** What of the rules of the language can be looked at: the class's face, its parts, its words. */
public final class LanguageTests {
    private static final String SOURCE = "src/main/java/LampVote.java";
    private static final String FACE = "feed(int) tide() places(int) place(int,int,int) at(int,int) "
            + "voter(int,int,int,int,int) of(int,int) wish(int,int) row(int,int,int) minutes(int) vote(int) "
            + "lies(int,int) ward(int) drifts(int,int) from(int,int,int) turns(int) sways(int,int) stick(int) "
            + "set(int,int) game(int,int,int) see(int,int) fits(int) fair(int) tale(int,int,int) looked() "
            + "act(int,int,int) trace(int) as(int,int) image() undo() count(int)";
    private static int wrong = 0;

    public static void main(String[] args) throws IOException {
        face();
        parts();
        words(Files.readString(Path.of(SOURCE), StandardCharsets.ISO_8859_1));
        System.out.println(wrong == 0 ? "LanguageTests: all rules that were looked at are kept" : wrong + " faults");
        if (wrong != 0) {
            System.exit(1);
        }
    }

    private static void must(boolean so, String what) {
        if (!so) {
            wrong++;
            System.out.println("not so: " + what);
        }
    }

    private static void face() {
        must(Modifier.isFinal(LampVote.class.getModifiers()), "rule 1: the class is final");
        Set<String> due = new TreeSet<>(List.of(FACE.split(" ")));
        Set<String> found = new TreeSet<>();
        for (Method m : LampVote.class.getDeclaredMethods()) {
            if (Modifier.isPrivate(m.getModifiers())) {
                continue;
            }
            StringBuilder types = new StringBuilder();
            for (Class<?> type : m.getParameterTypes()) {
                types.append(types.length() == 0 ? "" : ",").append(type.getName());
            }
            found.add(m.getName() + "(" + types + ")");
            must(Modifier.isPublic(m.getModifiers()), "rule 1: " + m + " is public");
            must(m.getReturnType() == (m.getName().equals("sways") ? long.class : int.class), m + " answers as told");
        }
        must(found.equals(due), "rule 1: the methods are " + due + ", not " + found);
        Constructor<?>[] made = LampVote.class.getDeclaredConstructors();
        must(made.length == 1 && made[0].getParameterCount() == 0 && Modifier.isPublic(made[0].getModifiers()),
                "rule 1: one public constructor");
        Set<String> constants = new TreeSet<>();
        for (Field f : LampVote.class.getDeclaredFields()) {
            if (!Modifier.isPrivate(f.getModifiers())) {
                constants.add(f.getName());
            }
        }
        must(constants.equals(new TreeSet<>(List.of("NONE", "BAD", "STATE", "FULL", "NO"))),
                "rule 1: the constants are not " + constants);
    }

    private static void parts() {
        Class<?>[] inside = LampVote.class.getDeclaredClasses();
        must(inside.length + 1 <= 12, "rule 11: some twelve classes");
        fields(LampVote.class);
        for (Class<?> c : inside) {
            must(Modifier.isStatic(c.getModifiers()), "rule 2: " + c + " is static");
            must(!Modifier.isPublic(c.getModifiers()) && !Modifier.isProtected(c.getModifiers()),
                    "rule 1: " + c + " is not public");
            fields(c);
            for (Method m : c.getDeclaredMethods()) {
                must(!(" " + FACE).contains(" " + m.getName() + "("), "rule 1: " + m + " bears a name of the face");
                must(m.getParameterCount() <= 7, "rule 11: " + m + " takes at most seven");
            }
        }
    }

    private static void fields(Class<?> c) {
        int many = 0;
        for (Field f : c.getDeclaredFields()) {
            if (Modifier.isStatic(f.getModifiers())) {
                must(Modifier.isFinal(f.getModifiers()), "rule 5: " + f + " is final");
            } else {
                many++;
            }
        }
        must(many <= 20, "rule 11: some twenty fields in " + c);
    }

    private static void words(String text) {
        String code = text.replaceAll("(?s)/\\*.*?\\*/", "").replaceAll("//[^\n]*", "")
                .replaceAll("\"[^\"]*\"", "\"\"").replaceAll("'[^']*'", "' '");
        for (String word : List.of("throw", "throws", "try", "catch", "finally", "synchronized", "assert", "instanceof",
                "interface", "float", "double", "package", "native", "volatile", "transient", "System.out",
                "System.exit", "Object", "Random", "Thread", "equals", "hashCode", "toString")) {
            must(!Pattern.compile("\\b" + Pattern.quote(word) + "\\b").matcher(code).find(), "rule 4 or 6: no " + word);
        }
        must(!code.contains("->") && !code.contains("::"), "rule 2: no lambda, no method reference");
        must(!Pattern.compile("static\\s*\\{").matcher(code).find(), "rule 5: no static initialiser");
        Matcher imports = Pattern.compile("import ([^;]*);").matcher(code);
        while (imports.find()) {
            must(imports.group(1).equals("java.util.Arrays"), "rule 4: " + imports.group(1));
        }
        for (String line : code.split("\n")) {
            must(line.length() <= 120, "a line of over 120 signs: " + line);
        }
        lengths(text.split("\n"));
    }

    /** A method ends at the first bracket that stands as far in as its head. */
    private static void lengths(String[] lines) {
        Pattern head = Pattern.compile("( {4}| {8})(?!if|for|while|switch|return|else)[a-zA-Z].*\\) \\{");
        int methods = 0;
        for (int i = 0; i < lines.length; i++) {
            Matcher m = head.matcher(lines[i]);
            if (m.matches()) {
                methods++;
                int end = i;
                while (end < lines.length && !lines[end].equals(m.group(1) + "}")) {
                    end++;
                }
                must(end - i < 60, "rule 11: a method of over 60 lines: " + lines[i].trim());
            }
        }
        must(methods > 80, "the methods were found");
    }
}
