import java.io.IOException;
import java.nio.file.Files;
import java.nio.file.Path;
import java.util.regex.Matcher;
import java.util.regex.Pattern;

/** Those rules of ../shared/LANGUAGE.md that can be seen in the text of the program. Run it in the project's root. */
public final class LanguageTest {
    private static final String[] FORBIDDEN = {
        "->", "::", "\\bpackage\\b", "\\bfinally\\b", "\\bsynchronized\\b", "\\bassert\\b", "\\bcatch\\b",
        "\\bprotected\\b", "\\bSystem\\.(?!arraycopy)", "\\bMath\\.\\w*Exact\\b", "\\bObject\\b", "\\bRandom\\b",
        "\\bThread\\b", "\\bString\\b", "\\bvar\\b", "\\bnull\\s*\\.", "static\\s*\\{", "\\b(equals|hashCode|toString)\\b",
        "\\bwhile\\s*\\(\\s*true", "\\bfor\\s*\\(\\s*;",
    };

    public static void main(String[] args) throws IOException {
        String text = Files.readString(Path.of("src/main/java/BoatRuns.java"));
        for (int i = 0; i < text.length(); i++) {
            char sign = text.charAt(i);
            if (sign < 1 || sign > 127 || sign == '\t' || sign == '\r') {
                Check.same("sign at " + i, sign, ' ');
            }
        }
        String code = withoutComments(text);
        for (String pattern : FORBIDDEN) {
            Matcher matcher = Pattern.compile(pattern).matcher(code);
            Check.same("pattern " + pattern, matcher.find() ? matcher.group() : "nothing", "nothing");
        }
        Check.same("imports", imports(code), "java.util.NoSuchElementException ");
        lengths(code);
        Check.finish();
    }

    private static String withoutComments(String text) {
        return text.replaceAll("(?s)/\\*.*?\\*/", "").replaceAll("//[^\n]*", "");
    }

    private static String imports(String code) {
        StringBuilder all = new StringBuilder();
        Matcher matcher = Pattern.compile("(?m)^import ([^;]*);").matcher(code);
        while (matcher.find()) {
            all.append(matcher.group(1)).append(' ');
        }
        return all.toString();
    }

    /** A method stands at four or eight spaces, and ends at a brace with as many. */
    private static void lengths(String code) {
        Matcher matcher = Pattern.compile("(?ms)^( {4}| {8})(?! )[^\n;=]*\\)[^\n;=]*\\{\n(.*?)^\\1\\}\n").matcher(code);
        int methods = 0;
        while (matcher.find()) {
            methods++;
            int lines = matcher.group(2).split("\n").length;
            Check.isTrue("lines of the method at " + matcher.start() + ": " + lines, lines <= 60);
        }
        Check.isTrue("methods that were looked at: " + methods, methods > 60);
    }
}
