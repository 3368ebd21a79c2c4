import java.io.IOException;
import java.lang.reflect.Method;
import java.lang.reflect.Modifier;
import java.nio.file.Files;
import java.nio.file.Path;
import java.util.regex.Matcher;
import java.util.regex.Pattern;

/** README.md's example answers as it says, and README.md tells of each method; run from the project's folder. */
public final class ReadmeTest {
    private static final Path README = Path.of("README.md");
    private static final Pattern EXAMPLE = Pattern.compile("(?s)```java\n(.*?)```");
    private static final Pattern CALL = Pattern.compile("x\\.(\\w+)\\((.*?)\\);(?:\\s+// (true|false|-?\\d+)\\b.*)?");

    private static int wrong = 0;
    private static int held = 0;

    private static void check(String what, boolean holds) {
        if (holds) {
            held++;
        } else {
            wrong++;
            System.out.println("does not hold: " + what);
        }
    }

    private static Object[] arguments(String text) {
        if (text.isBlank()) {
            return new Object[0];
        }
        String[] parts = text.split(",");
        Object[] all = new Object[parts.length];
        for (int at = 0; at < parts.length; at++) {
            String part = parts[at].trim();
            boolean truth = part.equals("true") || part.equals("false");
            all[at] = truth ? (Object) Boolean.valueOf(part) : (Object) Integer.valueOf(part);
        }
        return all;
    }

    private static Method named(String name) {
        for (Method method : InkOverInk.class.getDeclaredMethods()) {
            if (method.getName().equals(name) && Modifier.isPublic(method.getModifiers())) {
                return method;
            }
        }
        throw new IllegalStateException("the example calls " + name + ", which is not there");
    }

    private static void checkLine(InkOverInk x, String line) throws ReflectiveOperationException {
        Matcher call = CALL.matcher(line.trim());
        if (!call.matches()) {
            check("the example's line is a call with its answer: " + line, false);
            return;
        }
        Method method = named(call.group(1));
        String due = call.group(3);
        Object answer = method.invoke(x, arguments(call.group(2)));
        boolean silent = method.getReturnType() == void.class && due == null;
        check(line + " (answered " + answer + ")", silent || String.valueOf(answer).equals(due));
    }

    private static void checkExample(String text) throws ReflectiveOperationException {
        Matcher example = EXAMPLE.matcher(text);
        check("there is an example", example.find());
        String[] lines = example.group(1).split("\n");
        check("it begins with a new object", lines[0].startsWith("InkOverInk x = new InkOverInk();"));
        InkOverInk x = new InkOverInk();
        for (int at = 1; at < lines.length; at++) {
            checkLine(x, lines[at]);
        }
    }

    private static void checkMethods(String text) {
        for (Method method : InkOverInk.class.getDeclaredMethods()) {
            if (Modifier.isPublic(method.getModifiers())) {
                check("README.md tells of " + method.getName(), text.contains("`" + method.getName() + "("));
            }
        }
    }

    public static void main(String[] args) throws IOException, ReflectiveOperationException {
        String text = Files.readString(README);
        checkExample(text);
        checkMethods(text);
        System.out.println("ReadmeTest: " + held + " checks held, " + wrong + " did not");
        if (wrong != 0) {
            System.exit(1);
        }
    }
}
