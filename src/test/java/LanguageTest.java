import java.io.IOException;
import java.nio.file.Files;
import java.nio.file.Path;
import java.util.List;
import java.util.regex.Matcher;
import java.util.regex.Pattern;

/** What of LANGUAGE.md the source itself shows: words and signs that it rules out, and the length of methods. */
public final class LanguageTest {
    private static final Path SOURCE = Path.of("src/main/java/RopeWalk.java");
    private static final String[] RULED_OUT = {
        "\\bthrow\\b", "\\bthrows\\b", "\\btry\\b", "\\bcatch\\b", "\\bfinally\\b", "\\bsynchronized\\b", "\\bassert\\b",
        "\\bimport (?!java\\.util\\.(ArrayList|List|Arrays|Iterator);)", "\\bpackage\\b", "\\bprotected\\b", "\\bvolatile\\b", "\\bnative\\b",
        "::", "Exact\\(", "\\bnanoTime\\b", "\\bcurrentTimeMillis\\b", "\\bRandom\\b", "\\bThread\\b", "\\bhashCode\\b", "\\bgetClass\\b",
        "\\bObject\\b", "\\bstatic \\{", "\\[\\]\\[\\]\\[", "\\) -> ", "\"\" \\+|\\+ \"\""
    };
    private static final int MOST_LINES = 60;

    public static void main(String[] args) throws IOException {
        String code = withoutTexts(Files.readString(SOURCE));
        for (String word : RULED_OUT) {
            Matcher matcher = Pattern.compile(word).matcher(code);
            Due.holds("the class is without " + word, !matcher.find());
        }
        staticFields(code);
        lengths(Files.readAllLines(SOURCE));
        Due.finish("LanguageTest");
    }

    private static String withoutTexts(String code) {
        return code.replaceAll("(?s)/\\*.*?\\*/", "").replaceAll("//[^\n]*", "")
            .replaceAll("\"[^\"\n]*\"", "\"\"").replaceAll("'[^'\n]'", "' '");
    }

    private static void staticFields(String code) {
        Matcher matcher = Pattern.compile("static (?!final|class)[^(\n;{]*[=;]").matcher(code);
        Due.holds("static fields are final", !matcher.find());
    }

    /** A method ends with the first closing brace that stands as far to the left as it begins. */
    private static void lengths(List<String> lines) {
        int methods = 0;
        for (int i = 0; i < lines.size(); i++) {
            Matcher begin = Pattern.compile("^( +)[A-Za-z].*\\) \\{$").matcher(lines.get(i));
            if (begin.matches() && !lines.get(i).matches("^ +(if|for|while|switch|do|}).*")) {
                int end = lines.subList(i, lines.size()).indexOf(begin.group(1) + "}");
                Due.holds("length of" + lines.get(i), end > 0 && end < MOST_LINES);
                methods++;
            }
        }
        Due.holds("there are methods", methods > 60);
    }
}
