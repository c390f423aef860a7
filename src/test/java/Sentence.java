import java.io.IOException;
import java.nio.file.Files;
import java.nio.file.Path;
import java.util.ArrayList;
import java.util.LinkedHashMap;
import java.util.List;
import java.util.Map;
import java.util.Set;
import java.util.TreeSet;

/** The document's sentences, and which of them have a test of their own. */
final class Sentence {
    /** What a parameter is called, and no more: these name no boundary case. */
    private static final Set<String> NAMES = Set.of(
        "the CELL", "a CELL", "another one", "the other one", "which", "as which", "the RADIX", "the KIND", "HIGH",
        "LOW");
    /** These answer with what another sentence of their section has told, or tell how the document goes on. */
    private static final Set<String> NO_BOUNDARY = Set.of(
        "Returns that.", "Returns d.", "Computes a checksum.",
        "A bench for whole numbers of 32 and of 64 bits and for their texts in any radix from 2 to 36.",
        "Its calls: cells are told, texts are typed sign by sign, read as numbers with a sign or without one, and"
            + " numbers are written as texts; bits are turned, counted and picked out, numbers are divided as if they"
            + " had no sign, compared, and joined.",
        "One asks for each cell, for the text, and for what reading would tell.",
        "The constructor and the methods follow, a promise each: the signature, then what it does.");

    private static final Map<String, List<String>> TOLD = new LinkedHashMap<>();
    private static final Set<String> TESTED = new TreeSet<>();

    private Sentence() {
    }

    static void readAll(Path document) throws IOException {
        String section = "";
        boolean isFace = false;
        for (String whole : Files.readString(document).split("\n")) {
            String line = whole.trim();
            if (line.startsWith("## ")) {
                section = line.substring(3).replaceFirst("(Promise \\d+).*", "$1");
                TOLD.put(section, new ArrayList<>());
            }
            isFace ^= line.startsWith("```");
            boolean isHeading = section.isEmpty() || line.startsWith("#") || line.startsWith("----");
            if (!isFace && !isHeading && !line.matches("|`[^`]*\\)[^`]*`|```.*")) {
                TOLD.get(section).addAll(List.of(line.split("(?<=\\.|\\.\\))\\s+")));
            }
        }
    }

    static void holds(int promise, String words, Runnable test) {
        holds("Promise " + promise, words, test);
    }

    /** A test of a sentence; words are the sentence, or that part of it which the test is for. */
    static void holds(String section, String words, Runnable test) {
        String name = section + ", \"" + words + "\"";
        String sentence = sentenceWith(section, words);
        Due.is(name + " stands in the document", sentence != null, true);
        TESTED.add(section + sentence);
        int checked = Due.checked();
        int wrong = Due.wrong();
        Due.is(name + " ended by", Due.of(() -> ended(test)), "itself");
        Due.is(name + " has checks", Due.checked() > checked + 1, true);
        if (Due.wrong() > wrong) {
            System.out.println("broken: " + name);
        }
    }

    /** No sentence that names a boundary case is without a test. */
    static void noneIsLeft() {
        Due.is("the document's sections of promises",
            TOLD.keySet().stream().filter(section -> section.startsWith("Promise ")).count(), 29L);
        for (String section : TOLD.keySet()) {
            if (section.equals("Not promised")) {
                continue;
            }
            for (String sentence : TOLD.get(section)) {
                boolean isName = NAMES.contains(sentence.replaceFirst("- `\\w+`: ", ""));
                if (!isName && !NO_BOUNDARY.contains(sentence)) {
                    Due.is(section + ", \"" + sentence + "\" has a test", TESTED.contains(section + sentence), true);
                }
            }
        }
    }

    private static Object ended(Runnable test) {
        test.run();
        return "itself";
    }

    private static String sentenceWith(String section, String words) {
        for (String sentence : TOLD.getOrDefault(section, List.of())) {
            if (sentence.contains(words)) {
                return sentence;
            }
        }
        return null;
    }
}
