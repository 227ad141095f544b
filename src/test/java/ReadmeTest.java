import java.lang.reflect.Method;
import java.lang.reflect.Modifier;
import java.nio.file.Files;
import java.nio.file.Path;
import java.util.Set;
import java.util.TreeSet;
import java.util.regex.Matcher;
import java.util.regex.Pattern;

/** What README.md shows, line by line on one house, and that it names every call; run it from the project's folder. */
public final class ReadmeTest {
    private static final Due DUE = new Due();
    private static final Pattern CALL = Pattern.compile("^house\\.(\\w+)\\(([-0-9, ]*)\\);\\s*// (-?\\d+): .+$");
    private static final Pattern RULE = Pattern.compile("^String rule = \"([^\"]*)\";$");

    public static void main(String[] args) throws Exception {
        String readme = Files.readString(Path.of("README.md"));
        lines(readme);
        namesAll(readme);
        DUE.end("ReadmeTest");
    }

    private static void lines(String readme) throws ReflectiveOperationException {
        WhoSingsNext house = new WhoSingsNext();
        int calls = 0;
        for (String line : readme.split("\n")) {
            Matcher rule = RULE.matcher(line);
            if (rule.matches()) {
                Houses.feed(house, rule.group(1));
                continue;
            }
            Matcher call = CALL.matcher(line);
            if (call.matches()) {
                DUE.due("README: " + line, answer(house, call.group(1), call.group(2)), Long.parseLong(call.group(3)));
                calls++;
            } else {
                DUE.due("README: a line that isn't asked: " + line, line.startsWith("house.") ? 1 : 0, 0);
            }
        }
        DUE.due("README shows calls", calls > 20 ? 1 : 0, 1);
    }

    private static long answer(WhoSingsNext house, String name, String numbers) throws ReflectiveOperationException {
        String[] told = numbers.isEmpty() ? new String[0] : numbers.split(", ");
        Class<?>[] types = new Class<?>[told.length];
        Object[] values = new Object[told.length];
        for (int i = 0; i < told.length; i++) {
            types[i] = int.class;
            values[i] = Integer.parseInt(told[i]);
        }
        Method method = WhoSingsNext.class.getMethod(name, types);
        return ((Number) method.invoke(house, values)).longValue();
    }

    private static void namesAll(String readme) {
        Set<String> missing = new TreeSet<>();
        for (Method method : WhoSingsNext.class.getDeclaredMethods()) {
            boolean isOfTheFace = Modifier.isPublic(method.getModifiers());
            if (isOfTheFace && !readme.contains("`" + method.getName() + "(")) {
                missing.add(method.getName());
            }
        }
        DUE.due("README doesn't tell of " + missing, missing.size(), 0);
    }
}
