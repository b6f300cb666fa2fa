import java.io.IOException;
import java.io.UncheckedIOException;
import java.nio.file.Files;
import java.nio.file.Path;
import java.util.ArrayList;
import java.util.LinkedHashMap;
import java.util.List;
import java.util.Map;
import java.util.Set;

/**
 * The document's words: so that a test quotes what stands there, and no
 * sentence stays without a test.
 */
final class Document {
    private static final Path PLACE = Path.of("../shared/DOC.md");

    /** They promise nothing, or are code. */
    private static final Set<String> UNTESTED = Set.of("", "The public face", "Not promised");

    /** The starts of those parts of sentences that ask for nothing that a call could tell. */
    private static final List<String> PLAIN = List.of(
        "A switch box that sends a packet only if it has a credit for a chair: inputs with queues,",
        "what later calls answer is free.",
        "Time passes in ticks;",
        "Errors are reported by the constants below.",
        "Ahead of the calls `");

    private static final Map<String, List<String>> SECTIONS = sections();
    private static final Map<String, List<String>> QUOTES = new LinkedHashMap<>();

    private Document() {
    }

    /** Notes that a test quotes these words of the section, and looks whether they stand there. */
    static void quote(String section, String words) {
        if (SECTIONS.isEmpty()) {
            return;
        }
        Check.title(section);
        String text = String.join(" ", SECTIONS.getOrDefault(section, List.of()));
        Check.holds("the document says \"" + words + "\"", text.contains(words));
        QUOTES.computeIfAbsent(section, s -> new ArrayList<>()).add(words);
    }

    /** Looks whether of each part of a sentence something was quoted. */
    static void allIsQuoted() {
        for (Map.Entry<String, List<String>> section : SECTIONS.entrySet()) {
            Check.title(section.getKey());
            for (String part : section.getValue()) {
                boolean isPlain = PLAIN.stream().anyMatch(part::startsWith);
                Check.holds("a test of \"" + part + "\"", isPlain || isQuoted(section.getKey(), part));
            }
        }
    }

    private static boolean isQuoted(String section, String part) {
        List<String> quotes = QUOTES.getOrDefault(section, List.of());
        return quotes.stream().anyMatch(words -> words.contains(part) || part.contains(words));
    }

    /** The parts of the sentences by the section that they stand in. */
    private static Map<String, List<String>> sections() {
        Map<String, List<String>> all = new LinkedHashMap<>();
        String section = "";
        for (String line : lines()) {
            if (line.startsWith("## ")) {
                section = line.substring(3);
            } else if (line.matches("[A-Z]+( [A-Z]+)*")) {
                section = line;
            } else if (!line.isBlank() && !UNTESTED.contains(section)) {
                all.computeIfAbsent(section, s -> new ArrayList<>()).addAll(parts(line));
            }
        }
        return all;
    }

    private static List<String> parts(String line) {
        return List.of(line.strip().replaceFirst("^([0-9]+\\.|-) ", "").split("(?<=[.;]) "));
    }

    /** None if the document is not there: the class can be tested without it. */
    private static List<String> lines() {
        if (!Files.exists(PLACE)) {
            System.out.println("no " + PLACE + ": the quotes are not compared with it");
            return List.of();
        }
        try {
            return Files.readAllLines(PLACE);
        } catch (IOException e) {
            throw new UncheckedIOException(e);
        }
    }
}
