import java.io.IOException;
import java.lang.reflect.Field;
import java.lang.reflect.Member;
import java.lang.reflect.Method;
import java.lang.reflect.Modifier;
import java.nio.file.Files;
import java.nio.file.Path;
import java.util.ArrayList;
import java.util.List;
import java.util.TreeSet;
import java.util.regex.Matcher;
import java.util.regex.Pattern;

/** The public face, as the document has it, and nothing else. Run it in the project's root. */
public final class FaceTest {
    private static final String[] FACE = {
        "int begin(int) IllegalArgumentException",
        "int load(int, int) IllegalArgumentException IllegalStateException",
        "int loadDrawn(int, int, int) IllegalArgumentException",
        "int empty()",
        "int merge(int, int) NoSuchElementException IllegalArgumentException",
        "int mergeLightest() IllegalStateException",
        "int storm(int) IllegalArgumentException",
        "int tighten(int) NoSuchElementException",
        "int land(int) NoSuchElementException IllegalStateException",
        "int parcel(int, int) IndexOutOfBoundsException IllegalArgumentException",
        "int run(int, int) NoSuchElementException IllegalArgumentException",
        "int inRun(int, int) NoSuchElementException IndexOutOfBoundsException",
        "int ashore(int) IndexOutOfBoundsException",
        "int runAt(int) IndexOutOfBoundsException",
        "int value(int) IllegalArgumentException",
        "int nextThrown()",
        "int runsIfEmptied()",
        "int costByWeight()",
        "int costByNumber()",
        "int runsWith(int) IllegalArgumentException",
        "int leastRoom()",
        "int inversions()",
        "int append(int) IllegalArgumentException IllegalStateException",
        "int clearText()",
        "int carryOut()",
        "int undo() IllegalStateException",
        "long digest()",
    };

    /** The calls in the order of the document, with what it says ahead of them. */
    private static final String SECTIONS = "boat: begin load loadDrawn empty merge mergeLightest storm tighten land "
            + "values: parcel run inRun ashore runAt value "
            + "what if: nextThrown runsIfEmptied costByWeight costByNumber runsWith leastRoom inversions "
            + "text: append clearText carryOut "
            + "state: undo digest ";

    public static void main(String[] args) throws IOException {
        Class<?> face = BoatRuns.class;
        Check.isTrue("public final", Modifier.isPublic(face.getModifiers()) && Modifier.isFinal(face.getModifiers()));
        Check.same("the package", face.getPackageName(), "");
        Check.same("methods", methods(face), new TreeSet<>(List.of(FACE)).toString());
        Check.same("constants", constants(face), "[NONE]");
        Check.same("NONE", BoatRuns.NONE, -1);
        Check.same("constructors", face.getConstructors().length, 1);
        Check.same("all constructors", face.getDeclaredConstructors().length, 1);
        Check.same("its arguments", face.getConstructors()[0].getParameterCount(), 0);
        namesInside(face);
        Check.same("sections", sections(), SECTIONS);
        Check.finish();
    }

    private static String sections() throws IOException {
        String code = Files.readString(Path.of("src/main/java/BoatRuns.java"));
        Matcher matcher = Pattern.compile("(?m)^ {4}(?:// ---- (.*)|public (?:int|long) (\\w+)\\(.*)$").matcher(code);
        StringBuilder all = new StringBuilder();
        while (matcher.find()) {
            all.append(matcher.group(1) != null ? matcher.group(1) + ":" : matcher.group(2)).append(' ');
        }
        return all.toString();
    }

    private static String methods(Class<?> face) {
        TreeSet<String> seen = new TreeSet<>();
        for (Method method : face.getDeclaredMethods()) {
            if (isSeen(method)) {
                seen.add(told(method));
            }
        }
        return seen.toString();
    }

    private static boolean isSeen(Member member) {
        return !Modifier.isPrivate(member.getModifiers()) && !member.isSynthetic();
    }

    private static String told(Method method) {
        List<String> arguments = new ArrayList<>();
        for (Class<?> type : method.getParameterTypes()) {
            arguments.add(type.getSimpleName());
        }
        StringBuilder all = new StringBuilder();
        all.append(method.getReturnType().getSimpleName()).append(' ').append(method.getName());
        all.append('(').append(String.join(", ", arguments)).append(')');
        for (Class<?> type : method.getExceptionTypes()) {
            all.append(' ').append(type.getSimpleName());
        }
        return all.toString();
    }

    private static String constants(Class<?> face) {
        TreeSet<String> seen = new TreeSet<>();
        for (Field field : face.getDeclaredFields()) {
            if (isSeen(field)) {
                seen.add(field.getName());
            }
        }
        return seen.toString();
    }

    /** The classes inside are static, and no private method bears the name of a public one. */
    private static void namesInside(Class<?> face) {
        TreeSet<String> names = new TreeSet<>();
        for (Method method : face.getMethods()) {
            names.add(method.getName());
        }
        for (Method method : face.getDeclaredMethods()) {
            Check.isTrue(method.getName(), isSeen(method) || !names.contains(method.getName()));
        }
        for (Class<?> inside : face.getDeclaredClasses()) {
            int modifiers = inside.getModifiers();
            Check.isTrue(inside.getName(), Modifier.isStatic(modifiers) && !Modifier.isPublic(modifiers)
                    && !Modifier.isProtected(modifiers));
            for (Method method : inside.getDeclaredMethods()) {
                Check.isTrue(method.getName(), !Modifier.isPrivate(method.getModifiers())
                        || !names.contains(method.getName()));
            }
        }
    }
}
