import java.io.IOException;
import java.nio.file.Files;
import java.nio.file.Path;
import java.util.ArrayList;
import java.util.LinkedHashMap;
import java.util.LinkedHashSet;
import java.util.List;
import java.util.Map;
import java.util.Set;
import java.util.regex.Matcher;
import java.util.regex.Pattern;

/**
 * The sentences of ../shared/DOC.md. A boundary test names the sentence that it is about, word by
 * word: so a sentence that no test names shows, and a test of a sentence that is gone does, too.
 */
final class Doc {
    private static final Path FILE = Path.of("../shared/DOC.md");
    /** A paragraph of the terms with its title; one without a title belongs to the one before. */
    private static final Pattern TERM = Pattern.compile("(\\w+|The constants)[.:] (.*)");
    /** The sentences of each section; a paragraph of the terms is a section of its own. */
    private static final Map<String, List<String>> SECTIONS = new LinkedHashMap<>();
    private static final Set<String> NAMED = new LinkedHashSet<>();

    private static String current = "";

    private Doc() {
    }

    static {
        read();
    }

    /** What is checked from now on is about this sentence of this section. */
    static void about(String section, String sentence) {
        name(section, sentence);
        current = "[" + section + ": " + sentence + "] ";
    }

    static void promise(int number, String sentence) {
        about("Promise " + number, sentence);
    }

    /** These sentences of a promise name no boundary case of their own. */
    static void noBoundary(int number, String... sentences) {
        for (String sentence : sentences) {
            name("Promise " + number, sentence);
        }
    }

    private static void name(String section, String sentence) {
        current = "";
        NAMED.add(section + ": " + sentence);
        if (!SECTIONS.isEmpty()) {
            boolean there = SECTIONS.getOrDefault(section, List.of()).contains(sentence);
            Check.isTrue("the document says in " + section + ": " + sentence, there);
        }
    }

    /** Stands ahead of what a test tells. */
    static String named() {
        return current;
    }

    static void everySentenceIsNamed() {
        current = "";
        for (Map.Entry<String, List<String>> section : SECTIONS.entrySet()) {
            for (String sentence : section.getValue()) {
                String whole = section.getKey() + ": " + sentence;
                Check.isTrue("a test names " + whole, NAMED.contains(whole));
            }
        }
    }

    private static void read() {
        if (!Files.isReadable(FILE)) {
            System.out.println("no " + FILE + ": the sentences that the tests name aren't looked up");
            return;
        }
        try {
            String section = "";
            for (String line : Files.readAllLines(FILE)) {
                Matcher term = TERM.matcher(line);
                if (line.startsWith("## ")) {
                    section = line.substring(3).replaceFirst("^(Promise \\d+): .*$", "$1");
                } else if (section.startsWith("Terms") && term.matches()) {
                    section = "Terms, " + term.group(1);
                    readLine(section, term.group(2));
                } else if (!line.isBlank()) {
                    readLine(section, line);
                }
            }
        } catch (IOException e) {
            throw new IllegalStateException(e);
        }
    }

    private static void readLine(String section, String line) {
        if (section.equals("What it is") || section.startsWith("Terms, ") && !line.startsWith("Ahead of ")) {
            put(section, line);
        } else if (section.startsWith("Promise ")) {
            put(section, line.startsWith("- ") ? line.substring(2) : line.replaceFirst("^`[^`]*`: ", ""));
        }
    }

    private static void put(String section, String line) {
        List<String> sentences = SECTIONS.computeIfAbsent(section, key -> new ArrayList<>());
        for (String sentence : line.split("(?<=\\.)\\s+")) {
            sentences.add(sentence);
        }
    }

    /** Prints the sections with their sentences, to see how they are to be named. */
    public static void main(String[] args) {
        for (Map.Entry<String, List<String>> section : SECTIONS.entrySet()) {
            for (String sentence : section.getValue()) {
                System.out.println(section.getKey() + " | " + sentence);
            }
        }
    }
}
