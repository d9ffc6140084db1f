import java.io.IOException;
import java.lang.reflect.Method;
import java.lang.reflect.Modifier;
import java.nio.file.Files;
import java.nio.file.Path;
import java.util.regex.Matcher;
import java.util.regex.Pattern;

/** README.md tells the class as it is: its example is played, call by call. Run in the project's directory. */
public final class ReadmeTest {
    private static final Pattern CALL = Pattern.compile("net\\.(\\w+)\\(([^)]*)\\);\\s*// (-?\\d+)(:.*)?");

    public static void main(String[] args) throws IOException {
        Check check = new Check("ReadmeTest");
        String text = Files.readString(Path.of("README.md"));
        playExample(check, text);
        for (Method method : ManyGoods.class.getDeclaredMethods()) {
            if (Modifier.isPublic(method.getModifiers())) {
                check.holds("the table has " + method.getName(), text.contains("`" + form(method)));
            }
        }
        check.holds("NONE", text.contains("`ManyGoods.NONE` (" + ManyGoods.NONE + ")"));
        check.holds("BAD", text.contains("`ManyGoods.BAD` (" + ManyGoods.BAD + ")"));
        check.holds("FULL", text.contains("`ManyGoods.FULL` (" + ManyGoods.FULL + ")"));
        checkTests(check, text);
        check.end();
    }

    private static String form(Method method) {
        return method.getName() + (method.getParameterCount() == 0 ? "()" : "(");
    }

    private static void playExample(Check check, String text) {
        int start = text.indexOf("```java\n");
        int end = text.indexOf("\n```\n", start + 1);
        check.holds("an example", start >= 0 && end > start);
        String[] lines = text.substring(start, end).split("\n");
        check.due("the first line makes an object", lines[1].compareTo("ManyGoods net = new ManyGoods();"), 0);
        ManyGoods net = new ManyGoods();
        for (int n = 2; n < lines.length; n++) {
            Matcher matcher = CALL.matcher(lines[n]);
            if (matcher.matches()) {
                check.due(lines[n], answer(check, net, matcher.group(1), matcher.group(2)), Long.parseLong(matcher.group(3)));
            } else {
                check.holds("a call with its answer: " + lines[n], false);
            }
        }
    }

    private static int answer(Check check, ManyGoods net, String name, String inside) {
        String[] words = inside.isEmpty() ? new String[0] : inside.split(", ");
        Class<?>[] types = new Class<?>[words.length];
        Object[] values = new Object[words.length];
        for (int i = 0; i < words.length; i++) {
            types[i] = int.class;
            values[i] = Integer.valueOf(words[i]);
        }
        try {
            return (Integer) ManyGoods.class.getMethod(name, types).invoke(net, values);
        } catch (ReflectiveOperationException e) {
            check.holds(name + "(" + inside + ") is a call: " + e, false);
            return Integer.MIN_VALUE;
        }
    }

    private static void checkTests(Check check, String text) throws IOException {
        try (var files = Files.list(Path.of("src/test/java"))) {
            files.map(file -> file.getFileName().toString()).filter(name -> name.endsWith("Test.java"))
                .map(name -> name.substring(0, name.length() - ".java".length()))
                .forEach(name -> check.holds("the list of tests has " + name, text.contains("`" + name + "`")));
        }
        check.holds("how to run the tests", text.contains("```sh\n.ci/run\n```"));
    }
}
