import java.lang.reflect.Method;
import java.nio.file.Files;
import java.nio.file.Path;
import java.util.regex.Matcher;
import java.util.regex.Pattern;

/** README.md: its example answers what it says, and it names every call of the face with what each takes. */
public final class ReadmeTest {
    private static final Pattern TEXT = Pattern.compile("\"([^\"]*)\"\\.toCharArray");
    private static final Pattern CALL = Pattern.compile("lace\\.(\\w+)\\(([-\\d, ]+)\\); *// (-?\\d+):");
    private static final Due due = new Due();

    public static void main(String[] args) throws Exception {
        String page = Files.readString(Path.of("README.md"));
        example(page.substring(page.indexOf("```java"), page.lastIndexOf("```")));
        calls(page);
        due.end();
    }

    private static void example(String code) throws Exception {
        LaceWorks lace = new LaceWorks();
        Matcher text = TEXT.matcher(code);
        if (!text.find()) {
            due.fail("the example says no text");
            return;
        }
        new Talk(due).sayAll(lace, text.group(1));
        Matcher call = CALL.matcher(code);
        int made = 0;
        while (call.find()) {
            made++;
            due.is(call.group(), answer(lace, call.group(1), call.group(2).split(", *")), Integer.parseInt(call.group(3)));
        }
        long lines = code.lines().filter(line -> line.startsWith("lace.")).count();
        due.is("calls of the example that were made", made, lines);
    }

    private static int answer(LaceWorks lace, String name, String[] numbers) throws Exception {
        Class<?>[] types = new Class<?>[numbers.length];
        Object[] values = new Object[numbers.length];
        for (int i = 0; i < numbers.length; i++) {
            types[i] = int.class;
            values[i] = Integer.valueOf(numbers[i]);
        }
        return (Integer) LaceWorks.class.getMethod(name, types).invoke(lace, values);
    }

    private static void calls(String page) {
        for (Method m : LaceWorks.class.getMethods()) {
            if (m.getDeclaringClass() == LaceWorks.class) {
                String arguments = "\\w+(, \\w+){" + (m.getParameterCount() - 1) + "}";
                Pattern row = Pattern.compile("\\| `" + m.getName() + "\\(" + (m.getParameterCount() == 0 ? "" : arguments) + "\\)` \\|");
                due.is("README.md names " + m.getName(), row.matcher(page).find() ? 1 : 0, 1);
            }
        }
    }
}
