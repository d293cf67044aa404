import java.io.IOException;
import java.lang.reflect.Constructor;
import java.lang.reflect.Field;
import java.lang.reflect.Method;
import java.lang.reflect.Modifier;
import java.nio.charset.StandardCharsets;
import java.nio.file.Files;
import java.nio.file.Path;
import java.util.List;
import java.util.Map;
import java.util.Set;
import java.util.TreeMap;
import java.util.TreeSet;
import java.util.regex.Matcher;
import java.util.regex.Pattern;

/** What of the rules of the language can be looked at: the class's face, its parts, its words. */
public final class LanguageTests {
    private static final String SOURCE = "src/main/java/LampVote.java";
    private static final String FACE = "feed(int) tide() places(int) place(int,int,int) at(int,int) "
            + "voter(int,int,int,int,int) of(int,int) wish(int,int) row(int,int,int) minutes(int) vote(int) "
            + "lies(int,int) ward(int) drifts(int,int) from(int,int,int) turns(int) sways(int,int) stick(int) "
            + "set(int,int) game(int,int,int) see(int,int) fits(int) fair(int) tale(int,int,int) looked() "
            + "act(int,int,int) trace(int) as(int,int) image() undo() count(int)";
    private static int wrong = 0;

    public static void main(String[] args) throws IOException {
        face();
        parts();
        words(Files.readString(Path.of(SOURCE), StandardCharsets.ISO_8859_1));
        System.out.println(wrong == 0 ? "LanguageTests: all rules that were looked at are kept" : wrong + " faults");
        if (wrong != 0) {
            System.exit(1);
        }
    }

    private static void must(boolean so, String what) {
        if (!so) {
            wrong++;
            System.out.println("not so: " + what);
        }
    }

    private static void face() {
        must(Modifier.isFinal(LampVote.class.getModifiers()), "rule 1: the class is final");
        Set<String> due = new TreeSet<>(List.of(FACE.split(" ")));
        Set<String> found = new TreeSet<>();
        for (Method m : LampVote.class.getDeclaredMethods()) {
            if (Modifier.isPrivate(m.getModifiers())) {
                continue;
            }
            StringBuilder types = new StringBuilder();
            for (Class<?> type : m.getParameterTypes()) {
                types.append(types.length() == 0 ? "" : ",").append(type.getName());
            }
            found.add(m.getName() + "(" + types + ")");
            must(Modifier.isPublic(m.getModifiers()), "rule 1: " + m + " is public");
            must(m.getReturnType() == (m.getName().equals("sways") ? long.class : int.class), m + " answers as told");
        }
        must(found.equals(due), "rule 1: the methods are " + due + ", not " + found);
        Constructor<?>[] made = LampVote.class.getDeclaredConstructors();
        must(made.length == 1 && made[0].getParameterCount() == 0 && Modifier.isPublic(made[0].getModifiers()),
                "rule 1: one public constructor");
        Set<String> constants = new TreeSet<>();
        for (Field f : LampVote.class.getDeclaredFields()) {
            if (!Modifier.isPrivate(f.getModifiers())) {
                constants.add(f.getName());
            }
        }
        must(constants.equals(new TreeSet<>(List.of("NONE", "BAD", "STATE", "FULL", "NO"))),
                "rule 1: the constants are not " + constants);
    }

    private static void parts() {
        Class<?>[] inside = LampVote.class.getDeclaredClasses();
        must(inside.length + 1 <= 12, "rule 11: some twelve classes");
        fields(LampVote.class);
        for (Class<?> c : inside) {
            must(Modifier.isStatic(c.getModifiers()), "rule 2: " + c + " is static");
            must(!Modifier.isPublic(c.getModifiers()) && !Modifier.isProtected(c.getModifiers()),
                    "rule 1: " + c + " is not public");
            fields(c);
            for (Method m : c.getDeclaredMethods()) {
                must(!(" " + FACE).contains(" " + m.getName() + "("), "rule 1: " + m + " bears a name of the face");
                must(m.getParameterCount() <= 7, "rule 11: " + m + " takes at most seven");
            }
        }
    }

    private static void fields(Class<?> c) {
        int many = 0;
        for (Field f : c.getDeclaredFields()) {
            if (Modifier.isStatic(f.getModifiers())) {
                must(Modifier.isFinal(f.getModifiers()), "rule 5: " + f + " is final");
            } else {
                many++;
            }
        }
        must(many <= 20, "rule 11: some twenty fields in " + c);
    }

    private static void words(String text) {
        String code = text.replaceAll("(?s)/\\*.*?\\*/", "").replaceAll("//[^\n]*", "")
                .replaceAll("\"[^\"]*\"", "\"\"").replaceAll("'[^']*'", "' '");
        for (String word : List.of("throw", "throws", "try", "catch", "finally", "synchronized", "assert", "instanceof",
                "interface", "float", "double", "package", "native", "volatile", "transient", "System.out",
                "System.exit", "Object", "Random", "Thread", "equals", "hashCode", "toString")) {
            must(!Pattern.compile("\\b" + Pattern.quote(word) + "\\b").matcher(code).find(), "rule 4 or 6: no " + word);
        }
        must(!code.contains("->") && !code.contains("::"), "rule 2: no lambda, no method reference");
        must(!Pattern.compile("static\\s*\\{").matcher(code).find(), "rule 5: no static initialiser");
        Matcher imports = Pattern.compile("import ([^;]*);").matcher(code);
        while (imports.find()) {
            must(imports.group(1).equals("java.util.Arrays"), "rule 4: " + imports.group(1));
        }
        library(code);
        for (String line : code.split("\n")) {
            must(line.length() <= 120, "a line of over 120 signs: " + line);
        }
        calls(methods(code.split("\n")));
    }

    /** Long.MIN_VALUE stands in the document's face; else the rule lets through functions, no constants. */
    private static void library(String code) {
        Set<String> told = Set.of("Arrays.copyOf", "Arrays.copyOfRange", "Arrays.fill", "System.arraycopy",
                "Math.min", "Math.max", "Math.abs", "Math.floorDiv", "Math.floorMod", "Integer.bitCount");
        String rest = code.replace("NO = Long.MIN_VALUE;", "");
        Matcher used = Pattern.compile("\\b(Arrays|System|Math|StrictMath|Integer|Long|Character|String|Boolean)\\.\\w+")
                .matcher(rest.replaceAll("import [^;]*;", ""));
        while (used.find()) {
            must(told.contains(used.group()), "rule 4: " + used.group() + " is not told there");
        }
        Matcher made = Pattern.compile("\\bnew (\\w+)").matcher(code);
        while (made.find()) {
            must(Set.of("int", "Canal", "Night", "Acts", "Reader", "Tide").contains(made.group(1)),
                    "rule 4 or 12: new " + made.group(1));
        }
    }

    /** A method ends at the first bracket that stands as far in as its head. */
    private static Map<String, String> methods(String[] lines) {
        Pattern head = Pattern.compile("( {4}| {8})(?!if|for|while|switch|return|else)[a-zA-Z].*?(\\w+)\\(.*\\) \\{"
                + "|( {4}| {8})([A-Z]\\w+)\\(.*\\) \\{");
        Map<String, String> bodies = new TreeMap<>();
        for (int i = 0; i < lines.length; i++) {
            Matcher m = head.matcher(lines[i]);
            if (m.matches()) {
                boolean plain = m.group(1) != null;
                StringBuilder body = new StringBuilder();
                int end = i + 1;
                while (end < lines.length && !lines[end].equals((plain ? m.group(1) : m.group(3)) + "}")) {
                    body.append(lines[end]).append('\n');
                    end++;
                }
                must(end - i < 60, "rule 11: a method of over 60 lines: " + lines[i].trim());
                bodies.merge(plain ? m.group(2) : m.group(4), body.toString(), String::concat);
            }
        }
        must(bodies.size() > 80, "the methods were found");
        return bodies;
    }

    /** A method that calls itself is a recursion, whose depth rule 8 tells; it is taken once. */
    private static int depth(String name, Map<String, String> bodies, Map<String, Integer> known, Set<String> open) {
        if (known.containsKey(name)) {
            return known.get(name);
        }
        if (!open.add(name)) {
            must(name.equals("run"), "rule 8: " + name + " calls itself");
            return 0;
        }
        int below = 0;
        Matcher calls = Pattern.compile("\\b(\\w+)\\(").matcher(bodies.get(name));
        while (calls.find()) {
            if (bodies.containsKey(calls.group(1))) {
                below = Math.max(below, depth(calls.group(1), bodies, known, open));
            }
        }
        open.remove(name);
        known.put(name, below + 1);
        return below + 1;
    }

    private static void calls(Map<String, String> bodies) {
        Map<String, Integer> known = new TreeMap<>();
        int deepest = 0;
        for (String call : FACE.split(" ")) {
            String name = call.substring(0, call.indexOf('('));
            must(bodies.containsKey(name), name + " was found");
            int deep = depth(name, bodies, known, new TreeSet<>());
            must(deep <= 8, "rule 11: " + name + " goes " + deep + " deep");
            deepest = Math.max(deepest, deep);
        }
        must(deepest >= 6, "calls were found");
    }
}
