import java.io.IOException;
import java.nio.file.Files;
import java.nio.file.Path;
import java.util.regex.Matcher;
import java.util.regex.Pattern;

/** What of LANGUAGE.md can be seen in the program's text; its path is the first argument. */
public final class LanguageTest {
    private static final Check CHECK = new Check();
    private static final String[] REFUSED = {
        "\\b(throw|throws|try|catch|synchronized|assert|finally)\\b", "\\b(package|import)\\b", "->", "::",
        "\\bnew\\s+\\w+\\s*\\([^)]*\\)\\s*\\{", "\\b(equals|hashCode|toString)\\b", "\\bstatic\\s*\\{",
        "\\bwhile\\s*\\(\\s*true\\s*\\)", "\\bfor\\s*\\(\\s*;\\s*;", "Exact\\b", "\\bSystem\\.(?!arraycopy)",
        "\\b(double|float|NaN|Object|Thread|Random)\\b", "[^\\x00-\\x7f]"
    };
    private static final int MOST_LINES = 60;

    public static void main(String[] args) throws IOException {
        CHECK.holds("the program's path is given", args.length == 1);
        String text = Files.readString(Path.of(args[0]));
        String code = text.replaceAll("(?s)/\\*.*?\\*/", "").replaceAll("//[^\n]*", "");
        for (String refused : REFUSED) {
            Matcher found = Pattern.compile(refused).matcher(code);
            CHECK.holds("no " + refused, !found.find());
        }
        methodsAreShort(text);
        CHECK.end();
    }

    /** A method ends with the brace that stands as far in as its first line. */
    private static void methodsAreShort(String text) {
        Matcher method = Pattern.compile("(?m)^( {4}| {8})\\S[^\n=]*\\) \\{\n(?s:.*?)\n\\1\\}$").matcher(text);
        int methods = 0;
        while (method.find()) {
            methods++;
            String all = method.group();
            CHECK.holds("short: " + all.substring(0, all.indexOf('\n')), all.lines().count() <= MOST_LINES);
        }
        CHECK.holds("methods are found", methods > 17);
    }
}
