import java.io.IOException;
import java.lang.reflect.Constructor;
import java.lang.reflect.Field;
import java.lang.reflect.Method;
import java.lang.reflect.Modifier;
import java.nio.file.Files;
import java.nio.file.Path;
import java.util.ArrayList;
import java.util.HashSet;
import java.util.List;
import java.util.Map;
import java.util.Set;
import java.util.TreeMap;
import java.util.TreeSet;
import java.util.regex.Matcher;
import java.util.regex.Pattern;

/** Those rules of LANGUAGE.md that can be seen from the file's text or by reflection; run it from the project's folder. */
public final class LanguageTest {
    private static final Due DUE = new Due();
    private static final String FACE = "behind best back cell chance coin come copy count desk drawn evening feed force"
        + " harm hold image judge refuse set sheet slip slips taken text told wait which";

    public static void main(String[] args) throws IOException {
        String source = Files.readString(Path.of("src/main/java/WhoSingsNext.java"));
        words(source);
        lines(source);
        depth(bodies(bare(source)));
        face();
        nested();
        DUE.end("LanguageTest");
    }

    /** Without what stands in comments and texts. */
    private static String bare(String source) {
        return source.replaceAll("(?s)/\\*.*?\\*/", " ").replaceAll("//[^\n]*", " ")
            .replaceAll("\"[^\"\n]*\"", "\"\"").replaceAll("'[^'\n]+'", "' '");
    }

    private static void words(String source) {
        String code = bare(source);
        for (String word : List.of("throw", "throws", "try", "catch", "synchronized", "assert", "package", "protected",
                "->", "::", "hashCode", "toString", "Exact", "Random", "System.nanoTime", "System.currentTimeMillis",
                "Thread", "volatile", "transient", "native", "String.format", "NaN", "double", "float")) {
            String pattern = Character.isLetter(word.charAt(0)) ? "\\b" + Pattern.quote(word) + "\\b" : Pattern.quote(word);
            DUE.due("rule 6, 13: " + word, Pattern.compile(pattern).matcher(code).find() ? 1 : 0, 0);
        }
        Matcher imports = Pattern.compile("import ([^;]+);").matcher(code);
        while (imports.find()) {
            DUE.due("rule 4: import " + imports.group(1),
                List.of("java.util.Arrays", "java.util.ArrayList", "java.util.List").contains(imports.group(1)) ? 0 : 1, 0);
        }
        for (char c : source.toCharArray()) {
            if (c > 127 || c < 10) {
                DUE.due("rule 4: the sign " + (int) c, 1, 0);
            }
        }
    }

    /** A method begins four or eight blanks in and ends in as many. */
    private static void lines(String source) {
        String[] all = source.split("\n");
        for (int i = 0; i < all.length; i++) {
            Matcher head = Pattern.compile("^( {4}| {8})(?=\\w)[\\w\\[\\] ]*?(\\w+)\\(([^)]*)\\) \\{$").matcher(all[i]);
            if (!head.find()) {
                continue;
            }
            int end = i;
            while (!all[end].equals(head.group(1) + "}")) {
                end++;
            }
            DUE.due("rule 11: lines of " + head.group(2), end - i > 60 ? end - i : 0, 0);
            DUE.due("rule 11: parameters of " + head.group(2), head.group(3).split(",").length > 7 ? 1 : 0, 0);
        }
    }

    /** What each method says, by its name; those of like names are one here, so that depths come out too great, if at all. */
    private static Map<String, String> bodies(String code) {
        Map<String, String> bodies = new TreeMap<>();
        Matcher head = Pattern.compile("(?ms)^( {4}| {8})(?=\\w)[\\w\\[\\] ]*?(\\w+)\\([^)\n]*\\) \\{$(.*?)^\\1\\}$").matcher(code);
        while (head.find()) {
            bodies.merge(head.group(2), head.group(3), String::concat);
        }
        return bodies;
    }

    private static void depth(Map<String, String> bodies) {
        Map<String, Set<String>> calls = new TreeMap<>();
        bodies.forEach((name, body) -> {
            Set<String> called = new TreeSet<>();
            Matcher call = Pattern.compile("\\b(\\w+)\\(").matcher(body);
            while (call.find()) {
                if (bodies.containsKey(call.group(1)) && !call.group(1).equals(name)) {
                    called.add(call.group(1));
                }
            }
            calls.put(name, called);
        });
        DUE.due("rule 11: the methods are seen", calls.size() > 80 && calls.containsKey("spells") ? 1 : 0, 1);
        for (String name : calls.keySet()) {
            List<String> deepest = deepest(name, calls, new ArrayList<>());
            DUE.due("rule 11: how deep " + deepest, deepest.size() > 8 ? deepest.size() : 0, 0);
        }
    }

    /** The longest chain of calls in which none comes twice. */
    private static List<String> deepest(String name, Map<String, Set<String>> calls, List<String> open) {
        open.add(name);
        List<String> longest = new ArrayList<>(open);
        for (String next : calls.get(name)) {
            if (!open.contains(next)) {
                List<String> chain = deepest(next, calls, open);
                longest = chain.size() > longest.size() ? chain : longest;
            }
        }
        open.remove(open.size() - 1);
        return longest;
    }

    private static void face() {
        Class<?> c = WhoSingsNext.class;
        DUE.due("rule 1: public and final", c.getModifiers() & (Modifier.PUBLIC | Modifier.FINAL),
            Modifier.PUBLIC | Modifier.FINAL);
        Set<String> names = new TreeSet<>();
        Set<String> hidden = new HashSet<>();
        for (Method m : c.getDeclaredMethods()) {
            boolean isPublic = Modifier.isPublic(m.getModifiers());
            DUE.due("rule 1: " + m.getName(), isPublic || Modifier.isPrivate(m.getModifiers()) ? 0 : 1, 0);
            (isPublic ? names : hidden).add(m.getName());
        }
        DUE.due("rule 1: the face is " + names, names.equals(new TreeSet<>(List.of(FACE.split(" ")))) ? 1 : 0, 1);
        for (Constructor<?> made : c.getDeclaredConstructors()) {
            DUE.due("rule 1: constructor", made.getParameterCount() + (Modifier.isPublic(made.getModifiers()) ? 0 : 1), 0);
        }
        for (String name : hidden) {
            DUE.due("rule 1: private and public " + name, names.contains(name) ? 1 : 0, 0);
        }
        Set<String> constants = new TreeSet<>();
        for (Field f : c.getDeclaredFields()) {
            DUE.due("rule 1: " + f.getName(),
                Modifier.isPublic(f.getModifiers()) || Modifier.isPrivate(f.getModifiers()) ? 0 : 1, 0);
            if (Modifier.isPublic(f.getModifiers())) {
                constants.add(f.getName());
            }
        }
        DUE.due("rule 1: constants are " + constants,
            constants.equals(new TreeSet<>(List.of("NONE", "BAD", "STATE", "FULL", "NO"))) ? 1 : 0, 1);
    }

    private static void nested() {
        Class<?>[] inside = WhoSingsNext.class.getDeclaredClasses();
        DUE.due("rule 11: classes", inside.length > 12 ? inside.length : 0, 0);
        fields(WhoSingsNext.class);
        Set<String> names = Set.of(FACE.split(" "));
        for (Class<?> c : inside) {
            DUE.due("rule 2: static " + c, Modifier.isStatic(c.getModifiers()) ? 1 : 0, 1);
            fields(c);
            for (Method m : c.getDeclaredMethods()) {
                DUE.due("rule 1: " + c + " has " + m.getName(), names.contains(m.getName()) ? 1 : 0, 0);
            }
        }
    }

    private static void fields(Class<?> c) {
        int count = 0;
        for (Field f : c.getDeclaredFields()) {
            boolean isStatic = Modifier.isStatic(f.getModifiers());
            count += isStatic ? 0 : 1;
            DUE.due("rule 5: " + f.getName(), isStatic && !Modifier.isFinal(f.getModifiers()) ? 1 : 0, 0);
        }
        DUE.due("rule 11: fields of " + c, count > 20 ? count : 0, 0);
    }
}
