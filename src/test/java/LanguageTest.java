import java.io.IOException;
import java.lang.reflect.Executable;
import java.lang.reflect.Field;
import java.lang.reflect.Modifier;
import java.nio.file.Files;
import java.nio.file.Path;
import java.util.ArrayList;
import java.util.List;
import java.util.regex.Matcher;
import java.util.regex.Pattern;

/**
 * Those rules of ../shared/LANGUAGE.md that can be seen in the text of the program or in its classes. Run it in
 * the project's root.
 */
public final class LanguageTest {
    private static final String[] FORBIDDEN = {
        "->", "::", "\\bpackage\\b", "\\bfinally\\b", "\\bsynchronized\\b", "\\bassert\\b", "\\bcatch\\b",
        "\\bprotected\\b", "\\bSystem\\.(?!arraycopy)", "\\bMath\\.\\w*Exact\\b", "\\bObject\\b", "\\bRandom\\b",
        "\\bThread\\b", "\\bString\\b", "\\bvar\\b", "\\bnull\\s*\\.", "static\\s*\\{", "\\b(equals|hashCode|toString)\\b",
        "\\bwhile\\s*\\(\\s*true", "\\bfor\\s*\\(\\s*;",
    };

    public static void main(String[] args) throws IOException {
        String text = Files.readString(Path.of("src/main/java/BoatRuns.java"));
        for (int i = 0; i < text.length(); i++) {
            char sign = text.charAt(i);
            if (sign < 1 || sign > 127 || sign == '\t' || sign == '\r') {
                Check.same("sign at " + i, sign, ' ');
            }
        }
        String code = withoutComments(text);
        for (String pattern : FORBIDDEN) {
            Matcher matcher = Pattern.compile(pattern).matcher(code);
            Check.same("pattern " + pattern, matcher.find() ? matcher.group() : "nothing", "nothing");
        }
        Check.same("imports", imports(code), "java.util.NoSuchElementException ");
        methods(code);
        classes();
        Check.finish();
    }

    private static String withoutComments(String text) {
        return text.replaceAll("(?s)/\\*.*?\\*/", "").replaceAll("//[^\n]*", "");
    }

    private static String imports(String code) {
        StringBuilder all = new StringBuilder();
        Matcher matcher = Pattern.compile("(?m)^import ([^;]*);").matcher(code);
        while (matcher.find()) {
            all.append(matcher.group(1)).append(' ');
        }
        return all.toString();
    }

    /** A method stands at four or eight spaces, and ends at a brace with as many. */
    private static void methods(String code) {
        Matcher matcher = Pattern.compile("(?ms)^( {4}| {8})(?! )([^\n;=]*\\)[^\n;=]*)\\{\n(.*?)^\\1\\}\n").matcher(code);
        int methods = 0;
        while (matcher.find()) {
            methods++;
            String head = matcher.group(2);
            int lines = matcher.group(3).split("\n").length;
            Check.isTrue("lines of " + head + ": " + lines, lines <= 60);
            makes(head, matcher.group(3));
        }
        Check.isTrue("methods that were looked at: " + methods, methods > 60);
    }

    /** Rows are made in constructors and used again: a call makes nothing, and a constructor throws nothing. */
    private static void makes(String head, String body) {
        boolean constructor = head.matches("(public )?[A-Z]\\w*\\(.*");
        boolean makes = Pattern.compile("(?<!\\bthrow )\\bnew\\b").matcher(body).find();
        Check.isTrue(head + "makes no objects", constructor || !makes);
        Check.isTrue(head + "throws nothing", !constructor || !body.contains("throw"));
    }

    private static void classes() {
        List<Class<?>> all = new ArrayList<>(List.of(BoatRuns.class.getDeclaredClasses()));
        all.add(BoatRuns.class);
        Check.isTrue("classes: " + all.size(), all.size() <= 12);
        for (Class<?> one : all) {
            fields(one, all);
            List<Executable> members = new ArrayList<>(List.of(one.getDeclaredMethods()));
            members.addAll(List.of(one.getDeclaredConstructors()));
            for (Executable member : members) {
                Check.isTrue("parameters of " + member, member.getParameterCount() <= 7);
            }
        }
    }

    /** Static fields are final and constants; the others are numbers, rows of them, or of the program's classes. */
    private static void fields(Class<?> one, List<Class<?>> own) {
        int count = 0;
        for (Field field : one.getDeclaredFields()) {
            Class<?> type = field.getType();
            if (Modifier.isStatic(field.getModifiers())) {
                Check.isTrue("constant " + field, Modifier.isFinal(field.getModifiers()) && type.isPrimitive());
            } else {
                count++;
                Class<?> part = type.isArray() ? type.getComponentType() : type;
                Check.isTrue("field " + field, part.isPrimitive() || own.contains(part));
            }
        }
        Check.isTrue("fields of " + one + ": " + count, count <= 20);
    }
}
