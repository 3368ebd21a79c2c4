import java.io.IOException;
import java.nio.file.Files;
import java.nio.file.Path;
import java.util.regex.Matcher;
import java.util.regex.Pattern;

/** Those rules of LANGUAGE.md that the program's text shows; run from the project's folder. */
public final class LanguageTest {
    private static final Path PROGRAM = Path.of("src/main/java/InkOverInk.java");
    private static final String[] NOT_THERE = {
        "\\bthrow\\b", "\\bthrows\\b", "\\btry\\b", "\\bcatch\\b", "\\bsynchronized\\b", "\\bassert\\b",
        "\\bpackage\\b", "\\bprotected\\b", "->", "::", "Exact\\b", "\\bObjects?\\b", "\\bOptional\\b",
        "\\bRandom\\b", "\\bThread\\b", "currentTimeMillis", "nanoTime", "\\bMap\\b", "\\bSet\\b",
        "\\bequals\\b", "\\bhashCode\\b", "\\btoString\\b", "import (?!java\\.util\\.Arrays;)", "\\bstatic \\{"};

    private static int wrong = 0;

    private static void say(String what) {
        wrong++;
        System.out.println(what);
    }

    private static String withoutComments(String text) {
        return text.replaceAll("(?s)/\\*.*?\\*/", "").replaceAll("//[^\n]*", "");
    }

    private static void checkWords(String code) {
        for (String word : NOT_THERE) {
            Matcher found = Pattern.compile(word).matcher(code);
            if (found.find()) {
                say("outside of the rules: " + found.group());
            }
        }
    }

    private static void checkCharacters(String text) {
        for (int at = 0; at < text.length(); at++) {
            if (text.charAt(at) > 255) {
                say("a character above 255 at " + at);
            }
        }
    }

    /** A method's head stands four or eight columns in, and so does the brace that ends it. */
    private static void checkLengths(String code) {
        String[] lines = code.split("\n");
        for (int from = 0; from < lines.length; from++) {
            Matcher head = Pattern.compile("^( {4}| {8})\\S.*\\) \\{$").matcher(lines[from]);
            if (!head.matches()) {
                continue;
            }
            int to = from;
            while (to < lines.length && !lines[to].equals(head.group(1) + "}")) {
                to++;
            }
            if (to - from > 60) {
                say("long: " + lines[from].trim());
            }
            if (lines[from].chars().filter(c -> c == ',').count() > 6) {
                say("many parameters: " + lines[from].trim());
            }
        }
    }

    public static void main(String[] args) throws IOException {
        String text = Files.readString(PROGRAM);
        String code = withoutComments(text);
        checkWords(code);
        checkCharacters(text);
        checkLengths(code);
        System.out.println(wrong == 0 ? "LanguageTest: within the rules" : "LanguageTest: " + wrong + " outside");
        if (wrong != 0) {
            System.exit(1);
        }
    }
}
