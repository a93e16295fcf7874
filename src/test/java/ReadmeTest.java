import java.io.IOException;
import java.lang.reflect.Method;
import java.lang.reflect.Modifier;
import java.nio.file.Files;
import java.nio.file.Path;
import java.util.Arrays;
import java.util.regex.Matcher;
import java.util.regex.Pattern;

/** What README.md says of the class: its example is run as it stands there, and every call is named. */
final class ReadmeTest {
    private static final Check CHECK = new Check("ReadmeTest");
    private static final Pattern TEXT = Pattern.compile("String text = \"([^\"]*)\";");
    private static final Pattern CALL = Pattern.compile("(?m)^laws\\.(\\w+)\\(([-0-9, ]*)\\);\\s*// (-?\\d+): ");
    private static final Pattern ANY_CALL = Pattern.compile("(?m)^laws\\.");

    public static void main(String[] args) throws IOException, ReflectiveOperationException {
        String readme = Files.readString(Path.of("README.md"));
        example(readme);
        everyCallIsNamed(readme);
        CHECK.end();
    }

    private static void example(String readme) throws ReflectiveOperationException {
        PocketLaws laws = new PocketLaws();
        Matcher text = TEXT.matcher(readme);
        CHECK.holds("the example has a text", text.find());
        Check.type(laws, text.group(1));
        Matcher call = CALL.matcher(readme);
        int found = 0;
        while (call.find()) {
            found++;
            int[] numbers = call.group(2).isBlank() ? new int[0]
                : Arrays.stream(call.group(2).split(",")).map(String::trim).mapToInt(Integer::parseInt).toArray();
            CHECK.due(call.group(1) + "(" + call.group(2) + ")", answer(laws, call.group(1), numbers), Long.parseLong(call.group(3)));
        }
        CHECK.due("calls of the example that tell their answer", found, ANY_CALL.matcher(readme).results().count());
    }

    private static long answer(PocketLaws laws, String name, int[] numbers) throws ReflectiveOperationException {
        Class<?>[] kinds = new Class<?>[numbers.length];
        Arrays.fill(kinds, int.class);
        Object[] given = Arrays.stream(numbers).boxed().toArray();
        return ((Number) PocketLaws.class.getMethod(name, kinds).invoke(laws, given)).longValue();
    }

    private static void everyCallIsNamed(String readme) {
        for (Method m : PocketLaws.class.getDeclaredMethods()) {
            if (Modifier.isPublic(m.getModifiers())) {
                CHECK.holds("README.md names " + m.getName(), readme.contains("`" + m.getName() + "`"));
            }
        }
    }
}
