import java.io.IOException;
import java.lang.reflect.Field;
import java.lang.reflect.Member;
import java.lang.reflect.Method;
import java.lang.reflect.Modifier;
import java.nio.file.Files;
import java.nio.file.Path;
import java.util.ArrayList;
import java.util.List;
import java.util.Set;
import java.util.TreeSet;
import java.util.regex.Matcher;
import java.util.regex.Pattern;

/** The face of the class, and those rules of LANGUAGE.md that can be seen from its members or its words. */
public final class LanguageTest {
    private static final Path SOURCE = Path.of("src/main/java/DiceRoads.java");
    private static final List<String> FACE = List.of("int set(int,int)", "int player(int)", "int seed(int)",
            "int go(int)", "int clear(int)", "int of(int,int)", "int ofSquare(int,int)", "int owes(int,int,int)",
            "int count(int)", "int sign(int)", "int chain(int,int)", "int emptyIn(int)", "int purseIn(int,int)",
            "int bestSeed(int,int)", "int put(long)", "int wipe()", "int fault()", "int carryOut()", "int undo()",
            "int save(int)", "int restore(int)");
    private static final List<String> CONSTANTS = List.of("NO_SUCH=-1", "BAD_VALUE=-2", "BAD_TEXT=-3", "TOO_MANY=-4",
            "NOT_POSSIBLE=-5", "NONE=-6", "WAGE=0", "PRICE=1", "TOLL=2", "CLAIM=3", "DUE=4");
    private static final List<String> NO_WORDS = List.of("throw", "throws", "try", "catch", "finally", "synchronized",
            "assert", "protected", "import", "package", "native", "volatile", "Object", "Thread", "equals", "hashCode",
            "toString", "double", "float", "System", "null\\s*\\.", "->", "::", "\"\\s*\\+", "\\+\\s*\"");

    public static void main(String[] args) throws IOException, IllegalAccessException {
        face();
        List<Class<?>> classes = new ArrayList<>(List.of(DiceRoads.class.getDeclaredClasses()));
        Check.that("at most twelve classes", classes.size() < 12);
        for (Class<?> inner : classes) {
            int modifiers = inner.getModifiers();
            Check.that(inner + " is static", Modifier.isStatic(modifiers));
            Check.that(inner + " is not public", !Modifier.isPublic(modifiers) && !Modifier.isProtected(modifiers));
        }
        classes.add(DiceRoads.class);
        for (Class<?> each : classes) {
            members(each);
        }
        words();
        lengths();
        Check.end();
    }

    private static void face() throws IllegalAccessException {
        Set<String> methods = new TreeSet<>();
        for (Method method : DiceRoads.class.getDeclaredMethods()) {
            if (isOpen(method)) {
                methods.add(signature(method));
                Check.that("public " + method, Modifier.isPublic(method.getModifiers()));
            }
        }
        Check.due("the methods", methods.toString(), new TreeSet<>(FACE).toString());
        Set<String> constants = new TreeSet<>();
        for (Field field : DiceRoads.class.getDeclaredFields()) {
            if (isOpen(field)) {
                constants.add(field.getName() + "=" + field.getInt(null));
                int modifiers = field.getModifiers();
                Check.that("a constant " + field, Modifier.isPublic(modifiers) && Modifier.isFinal(modifiers));
            }
        }
        Check.due("the constants", constants.toString(), new TreeSet<>(CONSTANTS).toString());
        Check.due("constructors", DiceRoads.class.getDeclaredConstructors().length, 1);
        Check.due("public constructors", DiceRoads.class.getConstructors().length, 1);
        Check.that("the class is final", Modifier.isFinal(DiceRoads.class.getModifiers()));
    }

    private static boolean isOpen(Member member) {
        return !Modifier.isPrivate(member.getModifiers()) && !member.isSynthetic();
    }

    private static String signature(Method method) {
        StringBuilder types = new StringBuilder();
        for (Class<?> type : method.getParameterTypes()) {
            types.append(types.length() == 0 ? "" : ",").append(type.getSimpleName());
        }
        return method.getReturnType().getSimpleName() + " " + method.getName() + "(" + types + ")";
    }

    private static void members(Class<?> owner) {
        Set<String> names = new TreeSet<>();
        for (String method : FACE) {
            names.add(method.substring(4, method.indexOf('(')));
        }
        for (Method method : owner.getDeclaredMethods()) {
            Check.that(method + " takes at most seven", method.getParameterCount() <= 7);
            boolean isFace = owner == DiceRoads.class && isOpen(method);
            Check.that(method + " bears no public name", isFace || !names.contains(method.getName()));
        }
        int fields = 0;
        for (Field field : owner.getDeclaredFields()) {
            if (Modifier.isStatic(field.getModifiers())) {
                Check.that(field + " is final", Modifier.isFinal(field.getModifiers()));
            } else {
                fields++;
            }
        }
        Check.that(owner + " has at most twenty fields", fields <= 20);
    }

    private static void words() throws IOException {
        String source = Files.readString(SOURCE);
        String code = source.replaceAll("(?s)/\\*.*?\\*/", "").replaceAll("//[^\n]*", "");
        for (String word : NO_WORDS) {
            String pattern = Character.isLetter(word.charAt(0)) ? "\\b" + word + "\\b" : word;
            Check.that("no " + word, !Pattern.compile(pattern).matcher(code).find());
        }
        Check.that("signs of 1 to 126", source.chars().allMatch(sign -> sign > 0 && sign < 127));
    }
    /** The methods of the class start behind 4 spaces, those of the classes inside it behind 8, and end there too. */
    private static void lengths() throws IOException {
        List<String> lines = Files.readAllLines(SOURCE);
        int methods = 0;
        for (int i = 0; i < lines.size(); i++) {
            String line = lines.get(i);
            Matcher start = Pattern.compile("( {4}| {8})\\w[^=;]*\\(.*\\{").matcher(line);
            if (start.matches() && !line.contains("class ")) {
                int end = lines.subList(i, lines.size()).indexOf(start.group(1) + "}");
                Check.that("at most sixty lines: " + line.trim(), end >= 0 && end < 60);
                methods++;
            }
        }
        Check.that("the methods are found", methods > FACE.size());
    }
}
