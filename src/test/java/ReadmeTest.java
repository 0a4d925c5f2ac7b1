import java.io.File;
import java.lang.reflect.Method;
import java.lang.reflect.Modifier;
import java.nio.charset.StandardCharsets;
import java.nio.file.Files;
import java.nio.file.Path;
import java.util.regex.Matcher;
import java.util.regex.Pattern;

/** Makes the calls of README.md's examples, line by line, and holds their answers against those told there. */
public final class ReadmeTest {
    private static final Pattern TOLD = Pattern.compile("tell\\(town, \"([^\"]*)\"\\);");
    private static final Pattern CALL = Pattern.compile("town\\.(\\w+)\\(([^)]*)\\);\\s+// (-?\\d+|true|false)\\b.*");

    private final Check c = new Check("ReadmeTest");
    private int calls;

    public static void main(String[] args) throws Exception {
        ReadmeTest test = new ReadmeTest();
        String text = Files.readString(Path.of("README.md"), StandardCharsets.ISO_8859_1);
        test.examples(text);
        test.names(text);
        test.c.finish();
    }

    private void examples(String text) throws Exception {
        String[] blocks = text.split("```java\n");
        for (int i = 1; i < blocks.length; i++) {
            String block = blocks[i].substring(0, blocks[i].indexOf("```"));
            if (!block.startsWith("static")) {
                for (String line : block.split("\n")) {
                    example(line);
                }
            }
        }
        c.due("README.md has examples", calls > 20, true);
    }

    private void example(String line) throws Exception {
        Matcher told = TOLD.matcher(line);
        Matcher call = CALL.matcher(line);
        if (told.matches()) {
            c.tell(told.group(1));
        } else if (call.matches()) {
            calls++;
            c.due(line, "" + made(call.group(1), call.group(2)), call.group(3));
        } else {
            c.due("read: " + line, line.equals("PaidByPoorer town = new PaidByPoorer();"), true);
            c.fresh();
        }
    }

    private Object made(String name, String told) throws Exception {
        String[] words = told.isEmpty() ? new String[0] : told.split(", ");
        Class<?>[] types = new Class<?>[words.length];
        Object[] values = new Object[words.length];
        for (int i = 0; i < words.length; i++) {
            types[i] = int.class;
            values[i] = Integer.parseInt(words[i]);
        }
        return PaidByPoorer.class.getMethod(name, types).invoke(c.x, values);
    }

    private void names(String text) {
        for (Method method : PaidByPoorer.class.getDeclaredMethods()) {
            if (Modifier.isPublic(method.getModifiers())) {
                c.due("README.md names " + method.getName(), text.contains("`" + method.getName() + "`"), true);
            }
        }
        for (String file : new File("src/test/java").list()) {
            if (file.endsWith("Test.java")) {
                c.due("README.md names " + file, text.contains("| `" + file.replace(".java", "") + "` |"), true);
            }
        }
    }
}
