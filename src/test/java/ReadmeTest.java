import java.io.IOException;
import java.lang.reflect.Method;
import java.nio.file.Files;
import java.nio.file.Path;
import java.util.ArrayList;
import java.util.List;
import java.util.TreeSet;
import java.util.regex.Matcher;
import java.util.regex.Pattern;

/**
 * What README.md shows: its examples answer so, its table has every call, and every test is named. Run it in the
 * project's root.
 */
public final class ReadmeTest {
    /** The lines of the examples, as they must stand in README.md. */
    private static final List<String> SHOWN = new ArrayList<>();

    private static String readme;

    public static void main(String[] args) throws IOException {
        readme = Files.readString(Path.of("README.md"));
        example();
        orders();
        everyExampleLineIsShown();
        everyCallIsTold();
        everyTestIsTold();
        Check.finish();
    }

    // ---- the examples

    /** A line of an example, with the answer that the line tells. */
    private static void shown(String line, int answer) {
        SHOWN.add(line);
        Matcher told = Pattern.compile("// (?:.*; )?answers (-?\\d+|NONE)").matcher(line);
        boolean tells = told.find();
        Check.isTrue("an answer is told in " + line, tells);
        if (tells) {
            int due = told.group(1).equals("NONE") ? BoatRuns.NONE : Integer.parseInt(told.group(1));
            Check.same(line, answer, due);
        }
    }

    private static void example() {
        BoatRuns x = new BoatRuns();
        SHOWN.add("BoatRuns x = new BoatRuns();      // an empty boat with room for 4 parcels");
        shown("x.begin(2);                       // another boat, with room for 2; answers 0, the parcels before", x.begin(2));
        shown("x.load(30, 7);                    // key 30, weight 7; answers NONE, there was room", x.load(30, 7));
        shown("x.load(10, 8);                    // answers NONE", x.load(10, 8));
        shown("x.load(20, 9);                    // answers 0: parcel 1, with key 10, was thrown to run 0", x.load(20, 9));
        shown("x.empty();                        // throws the others overboard; answers 1, the runs then", x.empty());
        shown("x.run(0, 1);                      // answers 24, the weight of run 0", x.run(0, 1));
        shown("x.inRun(0, 2);                    // answers 0, the parcel with key 30", x.inRun(0, 2));
        shown("x.storm(6);                       // answers 1: run 0 broke, the float of run 1 is new", x.storm(6));
        shown("x.merge(0, 1);                    // answers 24, the cost", x.merge(0, 1));
        shown("x.land(0);                        // answers 3, the parcels ashore then", x.land(0));
        shown("x.undo();                         // as before land; answers 3, the saved states that remain", x.undo());
    }

    private static void orders() {
        BoatRuns x = new BoatRuns();
        SHOWN.add("x = new BoatRuns();");
        for (char order : "p30,7;p10,8;e;s6;m0+1;".toCharArray()) {
            x.append(order);
        }
        SHOWN.add("for (char order : \"p30,7;p10,8;e;s6;m0+1;\".toCharArray()) {");
        SHOWN.add("    x.append(order);");
        SHOWN.add("}");
        shown("x.carryOut();                     // answers 5, the orders that were carried out", x.carryOut());
        shown("x.undo();                         // takes all five back; answers 0", x.undo());
        shown("x.clearText();                    // answers 22, the length of the text", x.clearText());
        x.append('e');
        SHOWN.add("x.append('e');");
        shown("x.carryOut();                     // answers -11: a semicolon is due at 1", x.carryOut());
    }

    /** Every line of the blocks of Java, in order. */
    private static void everyExampleLineIsShown() {
        List<String> told = new ArrayList<>();
        Matcher block = Pattern.compile("(?s)```java\n(.*?)```").matcher(readme);
        while (block.find()) {
            for (String line : block.group(1).split("\n")) {
                if (!line.isBlank()) {
                    told.add(line);
                }
            }
        }
        Check.same("the examples", String.join("\n", told), String.join("\n", SHOWN));
    }

    // ---- the tables

    private static void everyCallIsTold() {
        TreeSet<String> told = new TreeSet<>();
        Matcher row = Pattern.compile("(?m)^\\| `(\\w+)\\(").matcher(readme);
        while (row.find()) {
            told.add(row.group(1));
        }
        TreeSet<String> due = new TreeSet<>();
        for (Method method : BoatRuns.class.getMethods()) {
            if (method.getDeclaringClass() == BoatRuns.class) {
                due.add(method.getName());
            }
        }
        Check.same("the calls in the table", told.toString(), due.toString());
    }

    private static void everyTestIsTold() throws IOException {
        try (var files = Files.list(Path.of("src/test/java"))) {
            for (Path file : files.sorted().toList()) {
                Check.isTrue("README.md tells of " + file.getFileName(), readme.contains(file.getFileName().toString()));
            }
        }
    }
}
