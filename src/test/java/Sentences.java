import java.util.ArrayList;
import java.util.LinkedHashMap;
import java.util.List;
import java.util.Map;
import java.util.Set;
import java.util.TreeSet;

/** The sentences of the document, section by section, and which of them are held by tests. */
final class Sentences {
    /** Sentences that name no boundary case: what they say is said with its edges by others of the same promise. */
    private static final Set<String> PLAIN = Set.of(
            "`cell`: the cell", "`realm`: the realm", "`river`: the river", "`dragon`: the dragon", "`y`: the row",
            "`one`: the one realm", "`isDetail`: whether the detail is told",
            "Returns how many.", "Returns the account.", "Returns the cell.", "Returns the character.",
            "Returns the crease.", "Returns the error position.", "Returns the mean.", "Returns the number.",
            "Returns the realm.", "Returns the reason or the detail.", "Returns the river.", "Returns the scale.",
            "Returns the share.", "Returns the weight.", "Returns whether it could.", "Returns whether it is so.",
            "Returns a number of a realm.", "Returns a number of a river.", "Returns a number of a dragon.",
            "Returns an account.", "Returns a cell of a river.",
            "All numbers are integers but two.");

    private static final String SUMMARY = "Scales for the truth of maps: ";

    /** The sections that hold for all promises. */
    private static final List<String> FOR_ALL = List.of("What it is", "Terms");

    private final Map<String, List<String>> sections = new LinkedHashMap<>();
    private final Set<String> held = new TreeSet<>();

    Sentences(String document) {
        for (String section : document.split("(?m)^## ")) {
            String[] parts = section.split("\n", 2);
            String name = parts[0].replaceAll(":.*", "");
            if (name.startsWith("Promise ") || FOR_ALL.contains(name)) {
                sections.put(name, sentences(parts[1]));
            }
        }
    }

    private static List<String> sentences(String section) {
        List<String> sentences = new ArrayList<>();
        for (String block : section.split("\n\\s*\n|\n(?=- )")) {
            String text = block.strip().replaceAll("\\s+", " ").replaceFirst("^`[^`]*\\)[^`]*`: ", "").replaceFirst("^- ", "");
            for (String sentence : text.split("(?<=\\.) (?=[A-Z]|restore )")) {
                if (!isHeading(sentence)) {
                    sentences.add(sentence);
                }
            }
        }
        return sentences;
    }

    private static boolean isHeading(String sentence) {
        return sentence.isEmpty() || sentence.matches("(\\w+|The map|More precisely)\\.")
                || sentence.startsWith("Ahead of the calls ") || sentence.startsWith(SUMMARY);
    }

    int promises() {
        int promises = 0;
        for (String name : sections.keySet()) {
            promises += FOR_ALL.contains(name) ? 0 : 1;
        }
        return promises;
    }

    /** Marks the one sentence of the promise, or else of those for all, that has these words. */
    void hold(int promise, String words) {
        String own = "Promise " + promise;
        List<String> found = find(own, words);
        for (String name : FOR_ALL) {
            found = found.isEmpty() ? find(name, words) : found;
        }
        Due.compare("how many sentences of " + own + " say: " + words, 1, found.size());
        held.addAll(found);
    }

    /** The sentences of a section that are these words, or else have them, with the name of the section ahead. */
    private List<String> find(String section, String words) {
        List<String> found = new ArrayList<>();
        for (String sentence : sections.getOrDefault(section, List.of())) {
            if (sentence.equals(words)) {
                return List.of(section + ": " + sentence);
            }
            if (sentence.contains(words)) {
                found.add(section + ": " + sentence);
            }
        }
        return found;
    }

    /** The sentences that may name a boundary case and that no test holds. */
    List<String> unheld() {
        List<String> unheld = new ArrayList<>();
        sections.forEach((name, sentences) -> {
            for (String sentence : sentences) {
                if (!PLAIN.contains(sentence) && !held.contains(name + ": " + sentence)) {
                    unheld.add(name + ": " + sentence);
                }
            }
        });
        return unheld;
    }
}
