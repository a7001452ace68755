import java.lang.reflect.InvocationTargetException;
import java.lang.reflect.Method;
import java.lang.reflect.Modifier;
import java.nio.file.Files;
import java.nio.file.Path;
import java.util.regex.Matcher;
import java.util.regex.Pattern;

/** README.md names every call, and the calls in its examples answer what it says there. */
public final class ReadmeTest {
    private static final int FEWEST_EXAMPLES = 20;
    private static final Pattern BLOCK = Pattern.compile("```java\n(OpenSaying x = new OpenSaying\\(\\);.*?)```", Pattern.DOTALL);
    // A call of x, or tell(x, "..") with the parts of its text, and the answer behind it.
    private static final Pattern EXAMPLE = Pattern.compile(
            "(?:x\\.(\\w+)\\(([^)\"]*)\\)|tell\\(x, ((?:\"[^\"]*\"\\s*\\+?\\s*)+)\\)); *// ([\\w-]+):");

    private static int compared;
    private static int wrong;

    private ReadmeTest() {
    }

    public static void main(String[] args) throws Exception {
        String page = Files.readString(Path.of("README.md"));
        everyCallIsNamed(page);
        Matcher blocks = BLOCK.matcher(page);
        while (blocks.find()) {
            playBlock(blocks.group(1));
        }
        need(compared >= FEWEST_EXAMPLES, "there are examples");
        System.out.println(compared + " examples compared, " + wrong + " wrong");
        System.exit(wrong == 0 ? 0 : 1);
    }

    private static void need(boolean holds, String what) {
        if (!holds) {
            wrong++;
            System.out.println("not so: " + what);
        }
    }

    private static void everyCallIsNamed(String page) {
        for (Method m : OpenSaying.class.getDeclaredMethods()) {
            need(!Modifier.isPublic(m.getModifiers()) || page.contains("`" + m.getName() + "`"), m.getName() + " is named");
        }
    }

    private static void playBlock(String block) throws Exception {
        OpenSaying x = new OpenSaying();
        Matcher m = EXAMPLE.matcher(block);
        int examples = 0;
        while (m.find()) {
            examples++;
            compared++;
            String got = m.group(1) == null
                    ? "" + Checks.tell(x, m.group(3).replaceAll("\"\\s*\\+?\\s*|\\s*$", ""))
                    : answer(x, m.group(1), m.group(2));
            String want = m.group(4).equals("NONE") ? "-1" : m.group(4);
            need(got.equals(want), m.group() + " but it answered " + got);
        }
        need(examples == block.split(";[ ]*// ").length - 1, "each example of a block is compared");
    }

    private static String answer(OpenSaying x, String name, String numbers) throws IllegalAccessException {
        String[] given = numbers.isEmpty() ? new String[0] : numbers.split(", ");
        for (Method m : OpenSaying.class.getDeclaredMethods()) {
            if (m.getName().equals(name)) {
                Object[] a = new Object[given.length];
                for (int i = 0; i < a.length; i++) {
                    a[i] = m.getParameterTypes()[i] == boolean.class ? (Object) Boolean.valueOf(given[i]) : (Object) number(given[i]);
                }
                try {
                    return "" + m.invoke(x, a);
                } catch (InvocationTargetException e) {
                    return e.getCause().getClass().getSimpleName();
                }
            }
        }
        return "no such call";
    }

    private static int number(String given) {
        return given.equals("NONE") ? OpenSaying.NONE : Integer.decode(given);
    }
}
