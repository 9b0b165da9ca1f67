import java.lang.reflect.Method;
import java.nio.file.Files;
import java.nio.file.Path;
import java.util.Arrays;
import java.util.regex.Matcher;
import java.util.regex.Pattern;

/** The example of README.md: each call answers the number that stands behind it there. */
public final class ReadmeTest {
    private static final Due due = new Due("ReadmeTest");

    public static void main(String[] args) throws Exception {
        String readme = Files.readString(Path.of("README.md"));
        example(readme);
        namesEachCall(readme);
        due.end();
    }

    private static void example(String readme) throws Exception {
        Matcher text = Pattern.compile("String text = \"([^\"]*)\";").matcher(readme);
        due.is("there is a text", text.find() ? 1 : 0, 1);
        LeanTower x = new LeanTower();
        Due.feed(x, text.group(1));
        Matcher call = Pattern.compile("(?m)^x\\.(\\w+)\\(([^)]*)\\); +// (-?\\d+)").matcher(readme);
        int calls = 0;
        while (call.find()) {
            calls++;
            due.is(call.group(1) + "(" + call.group(2) + ")", answer(x, call.group(1), call.group(2)),
                    Integer.parseInt(call.group(3)));
        }
        due.is("there are calls", calls > 0 ? 1 : 0, 1);
    }

    private static int answer(LeanTower x, String name, String list) throws Exception {
        Object[] numbers = list.isEmpty() ? new Object[0]
                : Arrays.stream(list.split(", ")).map(Integer::valueOf).toArray();
        Class<?>[] types = new Class<?>[numbers.length];
        Arrays.fill(types, int.class);
        return (int) LeanTower.class.getMethod(name, types).invoke(x, numbers);
    }

    private static void namesEachCall(String readme) {
        for (Method m : LeanTower.class.getDeclaredMethods()) {
            if (java.lang.reflect.Modifier.isPublic(m.getModifiers())) {
                due.is("README.md names " + m.getName(), readme.contains("`" + m.getName() + "`") ? 1 : 0, 1);
            }
        }
    }
}
