import java.io.IOException;
import java.nio.file.Files;
import java.nio.file.Path;
import java.util.regex.Pattern;

/** Rules of LANGUAGE.md that can be read off the text of the class; run from the project's root. */
public final class LanguageTest {
    private static final Due DUE = new Due("LanguageTest");

    private static final String[] BARRED = {
        "\\b(throw|throws|try|catch|synchronized|assert|volatile|package|protected)\\b",
        "->", "::", "\\bimport\\b", "\\b(System\\.(?!arraycopy)|Math\\.\\w+Exact|Thread|Random)\\b",
        "\\bequals\\s*\\(", "\\b(hashCode|toString)\\b", "\\bstatic\\s*\\{",
        "\\bstatic\\s+(?!final\\b)(int|long|boolean|char|String)\\s+\\w+\\s*[=;]",
        "(?<!static )(?<!static final )\\bclass\\s+(?!LiveViews)\\w+", "while\\s*\\(\\s*true"
    };

    public static void main(String[] args) throws IOException {
        String text = Files.readString(Path.of("src/main/java/LiveViews.java"));
        String code = text.replaceAll("(?s)/\\*.*?\\*/", " ").replaceAll("//[^\n]*", " ");
        for (String barred : BARRED) {
            DUE.holds("without " + barred, !Pattern.compile(barred).matcher(code).find());
        }
        DUE.holds("characters 0 to 255 alone", text.chars().allMatch(c -> c < 256));
        DUE.end();
    }
}
