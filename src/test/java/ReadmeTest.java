import java.io.IOException;
import java.lang.reflect.Method;
import java.lang.reflect.Modifier;
import java.nio.file.Files;
import java.nio.file.Path;
import java.util.Set;
import java.util.TreeSet;
import java.util.regex.Matcher;
import java.util.regex.Pattern;

/**
 * README.md shows how to use the class: each call that it shows answers what stands behind
 * it, and no call of the face is left out. The README is found by the class's text, whose
 * place is told by .ci/run.
 */
public final class ReadmeTest {
    private static final String NEW = "LastScale scale = new LastScale();";
    private static final Pattern CALL = Pattern.compile("scale\\.(\\w+)\\((.*)\\);\\s*// (-?\\w+)(:.*)?");

    private final Set<String> seen = new TreeSet<>();
    private LastScale scale;

    public static void main(String[] args) throws IOException, ReflectiveOperationException {
        Path root = Path.of(args[0]).toAbsolutePath().getParent().getParent().getParent().getParent();
        String text = Files.readString(root.resolve("README.md"));
        ReadmeTest test = new ReadmeTest();
        String[] parts = text.split("```");
        for (int i = 1; i < parts.length; i += 2) {
            test.follow(parts[i].split("\n"));
        }
        for (Method method : LastScale.class.getDeclaredMethods()) {
            if (Modifier.isPublic(method.getModifiers())) {
                Check.due("README shows " + method.getName(), test.seen.contains(method.getName()) ? 1 : 0, 1);
            }
        }
        Check.due("README tells of .ci/run", text.contains(".ci/run") ? 1 : 0, 1);
        Check.end();
    }

    private void follow(String[] lines) throws ReflectiveOperationException {
        for (String line : lines) {
            Matcher call = CALL.matcher(line);
            if (line.equals(NEW)) {
                scale = new LastScale();
            } else if (call.matches() && scale != null) {
                seen.add(call.group(1));
                Check.due("README: " + line + " that is", answer(call.group(1), call.group(2)), number(call.group(3)));
            } else if (!line.isEmpty() && !line.equals("java")) {
                Check.due("README: a call stands in '" + line + "'", 0, 1);
            }
        }
    }

    private int answer(String name, String words) throws ReflectiveOperationException {
        String[] parts = words.isEmpty() ? new String[0] : words.split(", ");
        Object[] numbers = new Object[parts.length];
        Class<?>[] types = new Class<?>[parts.length];
        for (int i = 0; i < parts.length; i++) {
            types[i] = int.class;
            numbers[i] = parts[i].startsWith("'") ? (int) parts[i].charAt(1) : Integer.parseInt(parts[i]);
        }
        return (Integer) LastScale.class.getMethod(name, types).invoke(scale, numbers);
    }

    private static int number(String word) throws ReflectiveOperationException {
        if (Character.isUpperCase(word.charAt(0))) {
            return LastScale.class.getField(word).getInt(null);
        }
        return Integer.parseInt(word);
    }
}
