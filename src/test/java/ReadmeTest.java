import java.io.IOException;
import java.lang.reflect.InvocationTargetException;
import java.lang.reflect.Method;
import java.lang.reflect.Modifier;
import java.nio.file.DirectoryStream;
import java.nio.file.Files;
import java.nio.file.Path;
import java.util.HashMap;
import java.util.Map;
import java.util.Set;
import java.util.TreeSet;
import java.util.regex.Matcher;
import java.util.regex.Pattern;

/** README.md: the game that it shows answers what it says, and it names every call and every test. */
public final class ReadmeTest {
    private static final Path PAGE = Path.of("README.md");
    private static final Path TESTS = Path.of("src/test/java");
    private static final Pattern SHOWN_CALL = Pattern.compile("(?m)^roads\\.(\\w+)\\((.*?)\\); +// (-?[0-9]+)\\b");
    private static final Pattern TOLD_CALL = Pattern.compile("`(\\w+)\\(([^)]*)\\)`");

    private static final Map<String, Method> FACE = new HashMap<>();

    public static void main(String[] args) throws IOException, ReflectiveOperationException {
        for (Method method : DiceRoads.class.getDeclaredMethods()) {
            if (Modifier.isPublic(method.getModifiers())) {
                FACE.put(method.getName(), method);
            }
        }
        String page = Files.readString(PAGE);
        theGameAnswersWhatItSays(page);
        eachCallIsTold(page);
        eachTestIsNamed(page);
        Check.end();
    }

    private static void theGameAnswersWhatItSays(String page) throws ReflectiveOperationException {
        DiceRoads roads = new DiceRoads();
        Set<String> shown = new TreeSet<>();
        Matcher line = SHOWN_CALL.matcher(page);
        while (line.find()) {
            String call = line.group(1) + "(" + line.group(2) + ")";
            Check.due("README.md: " + call, answer(roads, line.group(1), line.group(2)),
                    Integer.parseInt(line.group(3)));
            shown.add(line.group(1));
        }
        Check.due("the calls that the game shows", shown.toString(), new TreeSet<>(FACE.keySet()).toString());
    }

    private static int answer(DiceRoads roads, String name, String words)
            throws IllegalAccessException, InvocationTargetException, NoSuchFieldException {
        Method method = FACE.get(name);
        Class<?>[] types = method.getParameterTypes();
        String[] parts = words.isEmpty() ? new String[0] : words.split(", ");
        Object[] arguments = new Object[parts.length];
        for (int i = 0; i < parts.length; i++) {
            long value = number(parts[i]);
            if (types[i] == long.class) {
                arguments[i] = value;
            } else {
                arguments[i] = (int) value;
            }
        }
        return (Integer) method.invoke(roads, arguments);
    }

    private static long number(String word) throws IllegalAccessException, NoSuchFieldException {
        if (word.startsWith("DiceRoads.")) {
            return DiceRoads.class.getDeclaredField(word.substring(10)).getInt(null);
        }
        return Long.decode(word.endsWith("L") ? word.substring(0, word.length() - 1) : word);
    }

    private static void eachCallIsTold(String page) {
        Map<String, Integer> told = new HashMap<>();
        Matcher call = TOLD_CALL.matcher(page.substring(page.indexOf("| calls |")));
        while (call.find()) {
            told.put(call.group(1), call.group(2).isEmpty() ? 0 : call.group(2).split(", ").length);
        }
        for (Method method : FACE.values()) {
            Check.due("arguments that README.md tells of " + method.getName(), told.getOrDefault(method.getName(), -1),
                    method.getParameterCount());
        }
    }

    private static void eachTestIsNamed(String page) throws IOException {
        try (DirectoryStream<Path> files = Files.newDirectoryStream(TESTS, "*Test.java")) {
            for (Path file : files) {
                String name = file.getFileName().toString().replace(".java", "");
                Check.that("README.md names " + name, page.contains("| `" + name + "` |"));
            }
        }
    }
}
