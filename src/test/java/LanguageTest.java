import java.io.IOException;
import java.nio.file.Files;
import java.nio.file.Path;
import java.util.regex.Pattern;

/**
 * What ../shared/LANGUAGE.md rules out and a look at the class's text can find: above all
 * that nothing in it throws or catches. The text's place is told by .ci/run.
 */
public final class LanguageTest {
    private static final String[] RULED_OUT = {"import ", "package ", "try", "catch", "throw", "finally", "->", "::",
        "synchronized", "assert", "static {", "Exact(", "protected ", "@", "String", "instanceof", "double", "float"};

    public static void main(String[] args) throws IOException {
        String text = Files.readString(Path.of(args[0]));
        Check.due("signs from 1 to 127 alone", text.chars().allMatch(sign -> sign > 0 && sign < 128) ? 1 : 0, 1);
        String code = text.replaceAll("(?s)/\\*.*?\\*/", "").replaceAll("//.*", "");
        for (String word : RULED_OUT) {
            Check.due("places of '" + word + "'", code.split(Pattern.quote(word), -1).length - 1, 0);
        }
        Check.due("public members of classes inside", code.split("\n        public ", -1).length - 1, 0);
        Check.end();
    }
}
