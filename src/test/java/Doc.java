import java.io.IOException;
import java.io.UncheckedIOException;
import java.nio.file.Files;
import java.nio.file.Path;
import java.util.ArrayList;
import java.util.LinkedHashMap;
import java.util.List;
import java.util.Map;

/** The sentences of the document, cut at their semicolons too, and which of them no test has quoted yet. */
final class Doc {
    private static final Map<String, List<String>> SENTENCES = read();
    private static final List<String> OPEN = new ArrayList<>();

    static {
        SENTENCES.forEach((section, sentences) -> sentences.forEach(one -> OPEN.add(named(section, one))));
    }

    private Doc() {
    }

    /** Marks the sentences of the section that hold the words; it is a fault if there is none. */
    static void quote(String section, String words) {
        boolean found = false;
        for (String sentence : SENTENCES.getOrDefault(section, List.of())) {
            if (sentence.contains(words)) {
                found = true;
                OPEN.remove(named(section, sentence));
            }
        }
        Check.same("the document says in " + named(section, words), found, true);
    }

    static void allQuoted() {
        Check.same("sentences without a test", String.join("\n", OPEN), "");
    }

    private static String named(String section, String sentence) {
        return section + ": " + sentence;
    }

    private static Map<String, List<String>> read() {
        Map<String, List<String>> sections = new LinkedHashMap<>();
        for (String part : text().split("(?m)^## ")) {
            // "Promise 2: append" is the section "Promise 2".
            String section = part.lines().findFirst().orElse("").replaceFirst(":.*", "");
            if (section.startsWith("Promise ") || section.equals("Terms") || section.equals("What it is")) {
                sections.put(section, sentences(part, section.startsWith("Promise ")));
            }
        }
        return sections;
    }

    private static List<String> sentences(String part, boolean isPromise) {
        List<String> sentences = new ArrayList<>();
        part.lines().skip(1).map(String::strip).filter(line -> !line.startsWith("```")).forEach(line -> {
            // A promise begins with the call's own line of the face, which FaceTest looks at.
            String rest = isPromise ? line.replaceFirst("^`[^`]*`: ", "") : line;
            for (String sentence : rest.split("(?<=[^ ][.;]) ")) {
                if (!sentence.isEmpty()) {
                    sentences.add(sentence);
                }
            }
        });
        return sentences;
    }

    private static String text() {
        try {
            return Files.readString(Path.of("../shared/DOC.md"));
        } catch (IOException e) {
            throw new UncheckedIOException(e);
        }
    }
}
