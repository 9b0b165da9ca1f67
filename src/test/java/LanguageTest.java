import java.lang.reflect.Constructor;
import java.lang.reflect.Field;
import java.lang.reflect.Method;
import java.lang.reflect.Modifier;
import java.nio.file.Files;
import java.nio.file.Path;
import java.util.List;
import java.util.Map;
import java.util.Set;
import java.util.TreeMap;
import java.util.TreeSet;
import java.util.regex.Matcher;
import java.util.regex.Pattern;
import java.util.stream.Stream;

/** What of ../shared/LANGUAGE.md a test can see: the face, and words that the program does without. */
public final class LanguageTest {
    private static final Set<String> FACE = Set.of("row 3", "set 3", "copy 5", "drop 1", "feed 2", "tower 0", "fault 0",
            "go 2", "hang 2", "halves 1", "year 0", "undo 0", "person 2", "lean 1", "worst 1", "most 0", "two 3",
            "stones 1", "marks 4", "rescue 1", "fall 0", "bells 3", "image 1", "restore 1", "kind 1", "as 2", "ask 2",
            "trace 1", "count 1", "status 0");
    private static final List<String> WITHOUT = List.of("\\bthrows?\\b", "\\btry\\b", "\\bcatch\\b", "\\bsynchronized\\b",
            "\\bassert\\b", "\\bimport\\b", "\\bpackage\\b", "->", "::", "\\w+Exact\\b", "@", "Integer\\.M", "Long\\.M",
            "\\bstatic \\{", "\\bvolatile\\b", "\\bhashCode\\b", "\\btoString\\b", "\\bSystem\\.(?!arraycopy)");

    private static final Due due = new Due("LanguageTest");

    public static void main(String[] args) throws Exception {
        face();
        nested();
        words();
        oneFile();
        due.end();
    }

    private static boolean isHidden(int modifiers) {
        return Modifier.isPrivate(modifiers);
    }

    private static void face() {
        Set<String> open = new TreeSet<>();
        for (Method m : LeanTower.class.getDeclaredMethods()) {
            if (!isHidden(m.getModifiers())) {
                open.add(m.getName() + " " + m.getParameterCount());
                due.is(m + " is public", Modifier.isPublic(m.getModifiers()) ? 1 : 0, 1);
                due.is(m + " answers an int", m.getReturnType() == int.class ? 1 : 0, 1);
            }
        }
        due.is("the face " + open, open.equals(new TreeSet<>(FACE)) ? 1 : 0, 1);
        for (Field f : LeanTower.class.getDeclaredFields()) {
            boolean told = Set.of("NONE", "BAD", "STATE", "FULL").contains(f.getName());
            due.is(f + " is hidden", isHidden(f.getModifiers()) ? 1 : 0, told ? 0 : 1);
        }
        for (Constructor<?> c : LeanTower.class.getDeclaredConstructors()) {
            due.is(c + " is public", Modifier.isPublic(c.getModifiers()) && c.getParameterCount() == 0 ? 1 : 0, 1);
        }
        due.is("the class is final", Modifier.isFinal(LeanTower.class.getModifiers()) ? 1 : 0, 1);
    }

    private static void nested() {
        Set<String> names = new TreeSet<>();
        for (String told : FACE) {
            names.add(told.substring(0, told.indexOf(' ')));
        }
        Map<String, Integer> sizes = new TreeMap<>();
        for (Class<?> c : LeanTower.class.getDeclaredClasses()) {
            due.is(c + " is static", Modifier.isStatic(c.getModifiers()) ? 1 : 0, 1);
            sizes.put(c.getSimpleName(), c.getDeclaredFields().length);
            for (Method m : c.getDeclaredMethods()) {
                due.is(m + " bears a name of its own", names.contains(m.getName()) ? 1 : 0, 0);
                due.is(m + " takes at most seven", m.getParameterCount() <= 7 ? 1 : 0, 1);
            }
            for (Field f : c.getDeclaredFields()) {
                boolean fixed = !Modifier.isStatic(f.getModifiers()) || Modifier.isFinal(f.getModifiers());
                due.is(f + " is final, if static", fixed ? 1 : 0, 1);
            }
        }
        due.is("some twelve classes at most " + sizes, sizes.size() < 12 ? 1 : 0, 1);
    }

    private static void words() throws Exception {
        String source = Files.readString(Path.of("src/main/java/LeanTower.java"));
        String code = source.replaceAll("(?s)/\\*.*?\\*/", "").replaceAll("//[^\n]*", "");
        for (String word : WITHOUT) {
            Matcher m = Pattern.compile(word).matcher(code);
            due.is("without " + word, m.find() ? 1 : 0, 0);
        }
        due.is("signs 1 to 127", source.chars().allMatch(c -> c > 0 && c < 128) ? 1 : 0, 1);
    }

    /** Nothing that is built or tried out beside the program may be left in the project. */
    private static void oneFile() throws Exception {
        Set<String> programs = new TreeSet<>();
        Set<String> tests = new TreeSet<>();
        try (Stream<Path> all = Files.walk(Path.of(""))) {
            for (Path file : all.filter(f -> f.toString().endsWith(".java")).toList()) {
                String name = file.toString().replace('\\', '/');
                (name.startsWith("src/test/java/") ? tests : programs).add(name);
            }
        }
        due.is("the program is one file " + programs, programs.equals(Set.of("src/main/java/LeanTower.java")) ? 1 : 0, 1);
        due.is("no test bears the program's name", tests.stream().anyMatch(t -> t.endsWith("/LeanTower.java")) ? 1 : 0, 0);
    }
}
