import java.io.IOException;
import java.nio.file.Files;
import java.nio.file.Path;
import java.util.ArrayList;
import java.util.LinkedHashMap;
import java.util.List;
import java.util.Map;

/** The sentences of the shared document by their headings, and which of them the tests have quoted. */
final class DocSentences {
    private static final Path DOC = Path.of("..", "shared", "DOC.md");
    private static final Map<String, List<String>> QUOTES = new LinkedHashMap<>();

    private DocSentences() {
    }

    static void quote(String heading, String words) {
        QUOTES.computeIfAbsent(heading, none -> new ArrayList<>()).add(words);
    }

    /** Each quote has to stand in the document, and each sentence below such a heading has to be quoted. */
    static List<String> faultsBelow(String headingStart) {
        List<String> faults = new ArrayList<>();
        Map<String, List<String>> sentences = sentences();
        if (sentences.isEmpty()) {
            System.out.println("no " + DOC + " here: the quotes are not compared with it");
            return faults;
        }
        sentences.forEach((heading, below) -> {
            if (heading.startsWith(headingStart)) {
                List<String> quotes = QUOTES.getOrDefault(heading, List.of());
                below.stream().filter(sentence -> quotes.stream().noneMatch(sentence::contains))
                    .forEach(sentence -> faults.add(heading + ": no test quotes \"" + sentence + "\""));
            }
        });
        QUOTES.forEach((heading, quotes) -> {
            List<String> below = sentences.getOrDefault(heading, List.of());
            quotes.stream().filter(quote -> below.stream().noneMatch(sentence -> sentence.contains(quote)))
                .forEach(quote -> faults.add(heading + ": the document does not say \"" + quote + "\""));
        });
        return faults;
    }

    private static Map<String, List<String>> sentences() {
        Map<String, List<String>> sentences = new LinkedHashMap<>();
        List<String> below = new ArrayList<>();
        for (String line : lines()) {
            if (line.startsWith("#")) {
                below = new ArrayList<>();
                sentences.put(line.replaceFirst("#+ ", ""), below);
            } else {
                for (String sentence : line.strip().split("(?<=[.;]) (?=[\"A-Za-z(])")) {
                    if (tellsSomething(sentence)) {
                        below.add(sentence);
                    }
                }
            }
        }
        return sentences;
    }

    /** One or two words are the topic of what follows; how the face is put in order shows in no call. */
    private static boolean tellsSomething(String sentence) {
        return sentence.split(" ").length > 2 && !sentence.startsWith("Ahead of the calls");
    }

    private static List<String> lines() {
        try {
            return Files.exists(DOC) ? Files.readAllLines(DOC) : List.of();
        } catch (IOException e) {
            throw new IllegalStateException(e);
        }
    }
}
