import java.lang.reflect.Constructor;
import java.lang.reflect.Field;
import java.lang.reflect.Method;
import java.lang.reflect.Modifier;
import java.nio.file.Files;
import java.nio.file.Path;
import java.util.List;
import java.util.Map;
import java.util.Set;
import java.util.TreeMap;
import java.util.TreeSet;
import java.util.regex.Matcher;
import java.util.regex.Pattern;
import java.util.stream.Stream;

/** What of ../shared/LANGUAGE.md a test can see: the face, and words that the program does without. */
public final class LanguageTest {
    private static final Set<String> FACE = Set.of("row 3", "set 3", "copy 5", "drop 1", "feed 2", "tower 0", "fault 0",
            "go 2", "hang 2", "halves 1", "year 0", "undo 0", "person 2", "lean 1", "worst 1", "most 0", "two 3",
            "stones 1", "marks 4", "rescue 1", "fall 0", "bells 3", "image 1", "restore 1", "kind 1", "as 2", "ask 2",
            "trace 1", "count 1", "status 0");
    private static final List<String> WITHOUT = List.of("\\bthrows?\\b", "\\btry\\b", "\\bcatch\\b", "\\bsynchronized\\b",
            "\\bassert\\b", "\\bimport\\b", "\\bpackage\\b", "->", "::", "\\w+Exact\\b", "@", "Integer\\.M", "Long\\.M",
            "\\bstatic \\{", "\\bvolatile\\b", "\\bhashCode\\b", "\\btoString\\b", "\\bSystem\\.(?!arraycopy)");

    private static final Due due = new Due("LanguageTest");

    public static void main(String[] args) throws Exception {
        face();
        nested();
        words();
        library();
        lengths();
        oneFile();
        due.end();
    }

    private static boolean isHidden(int modifiers) {
        return Modifier.isPrivate(modifiers);
    }

    private static void face() {
        Set<String> open = new TreeSet<>();
        for (Method m : LeanTower.class.getDeclaredMethods()) {
            if (!isHidden(m.getModifiers())) {
                open.add(m.getName() + " " + m.getParameterCount());
                due.is(m + " is public", Modifier.isPublic(m.getModifiers()) ? 1 : 0, 1);
                due.is(m + " answers an int", m.getReturnType() == int.class ? 1 : 0, 1);
            }
        }
        due.is("the face " + open, open.equals(new TreeSet<>(FACE)) ? 1 : 0, 1);
        for (Method m : LeanTower.class.getDeclaredMethods()) {
            boolean named = FACE.stream().anyMatch(told -> told.startsWith(m.getName() + " "));
            due.is(m + " is hidden and bears a public name", isHidden(m.getModifiers()) && named ? 1 : 0, 0);
        }
        for (Field f : LeanTower.class.getDeclaredFields()) {
            boolean told = Set.of("NONE", "BAD", "STATE", "FULL").contains(f.getName());
            due.is(f + " is hidden", isHidden(f.getModifiers()) ? 1 : 0, told ? 0 : 1);
        }
        for (Constructor<?> c : LeanTower.class.getDeclaredConstructors()) {
            due.is(c + " is public", Modifier.isPublic(c.getModifiers()) && c.getParameterCount() == 0 ? 1 : 0, 1);
        }
        due.is("the class is final", Modifier.isFinal(LeanTower.class.getModifiers()) ? 1 : 0, 1);
    }

    private static void nested() {
        Set<String> names = new TreeSet<>();
        for (String told : FACE) {
            names.add(told.substring(0, told.indexOf(' ')));
        }
        Map<String, Integer> sizes = new TreeMap<>();
        for (Class<?> c : LeanTower.class.getDeclaredClasses()) {
            due.is(c + " is static", Modifier.isStatic(c.getModifiers()) ? 1 : 0, 1);
            int fields = 0;
            for (Field f : c.getDeclaredFields()) {
                fields += Modifier.isStatic(f.getModifiers()) ? 0 : 1;
            }
            sizes.put(c.getSimpleName(), fields);
            due.is(c + " has some twenty fields at most", fields <= 20 ? 1 : 0, 1);
            for (Method m : c.getDeclaredMethods()) {
                due.is(m + " bears a name of its own", names.contains(m.getName()) ? 1 : 0, 0);
                due.is(m + " takes at most seven", m.getParameterCount() <= 7 ? 1 : 0, 1);
            }
            for (Field f : c.getDeclaredFields()) {
                boolean fixed = !Modifier.isStatic(f.getModifiers()) || Modifier.isFinal(f.getModifiers());
                due.is(f + " is final, if static", fixed ? 1 : 0, 1);
            }
        }
        due.is("some twelve classes at most " + sizes, sizes.size() < 12 ? 1 : 0, 1);
    }

    private static String source() throws Exception {
        return Files.readString(Path.of("src/main/java/LeanTower.java"));
    }

    /** Without its comments, whose words are free. */
    private static String code() throws Exception {
        return source().replaceAll("(?s)/\\*.*?\\*/", "").replaceAll("//[^\n]*", "");
    }

    private static void words() throws Exception {
        String source = source();
        String code = code();
        for (String word : WITHOUT) {
            Matcher m = Pattern.compile(word).matcher(code);
            due.is("without " + word, m.find() ? 1 : 0, 0);
        }
        due.is("signs 1 to 127", source.chars().allMatch(c -> c > 0 && c < 128) ? 1 : 0, 1);
    }

    /** All that is called on a class by its name is the program's own, or stands in rule 4. */
    private static void library() throws Exception {
        Set<String> allowed = Set.of("Math.abs", "Math.max", "Math.min", "Integer.bitCount", "System.arraycopy");
        Set<String> own = new TreeSet<>();
        for (Class<?> c : LeanTower.class.getDeclaredClasses()) {
            own.add(c.getSimpleName());
        }
        Matcher m = Pattern.compile("\\b([A-Z][a-z]\\w*)\\.\\w+").matcher(code());
        int calls = 0;
        while (m.find()) {
            calls++;
            due.is(m.group() + " may be used", allowed.contains(m.group()) || own.contains(m.group(1)) ? 1 : 0, 1);
        }
        due.is("the library is used", calls > 0 ? 1 : 0, 1);
    }

    /** A method begins at a line that ends in ") {" at the depth of members, and ends at its own brace. */
    private static void lengths() throws Exception {
        int methods = 0;
        int longest = 0;
        String end = null;
        int begun = 0;
        String[] lines = code().split("\n");
        for (int i = 0; i < lines.length; i++) {
            Matcher m = Pattern.compile("^( {4}| {8})\\w.*\\) \\{$").matcher(lines[i]);
            if (end == null && m.find()) {
                end = m.group(1) + "}";
                begun = i;
                methods++;
            } else if (lines[i].equals(end)) {
                longest = Math.max(longest, i - begun + 1);
                end = null;
            }
        }
        due.is("methods are found", methods > 80 ? 1 : 0, 1);
        due.is("a method has at most sixty lines, the longest " + longest, longest <= 60 ? 1 : 0, 1);
    }

    /** Nothing that is built or tried out beside the program may be left in the project. */
    private static void oneFile() throws Exception {
        Set<String> programs = new TreeSet<>();
        Set<String> tests = new TreeSet<>();
        try (Stream<Path> all = Files.walk(Path.of(""))) {
            for (Path file : all.filter(f -> f.toString().endsWith(".java")).toList()) {
                String name = file.toString().replace('\\', '/');
                (name.startsWith("src/test/java/") ? tests : programs).add(name);
            }
        }
        due.is("the program is one file " + programs, programs.equals(Set.of("src/main/java/LeanTower.java")) ? 1 : 0, 1);
        due.is("no test bears the program's name", tests.stream().anyMatch(t -> t.endsWith("/LeanTower.java")) ? 1 : 0, 0);
    }
}
