import java.io.IOException;
import java.util.ArrayList;
import java.util.List;

/** Holds the quotes of the boundary cases against the document: each stands there, and no sentence is left out. */
final class Quotes {
    private static final int SECTIONS = Document.PROMISES + 3;

    /** Lines of "Terms" that are headings, or tell how the interface is laid out. */
    private static final List<String> NO_SENTENCES = List.of("Blocks, files", "Growing, cutting", "Snapshots, undo");

    private Quotes() {
    }

    /** What is wrong, a line each. */
    static List<String> faults(List<Cases.Quote> quotes) throws IOException {
        List<List<String>> sentences = sentences();
        List<String> faults = new ArrayList<>();
        for (Cases.Quote quote : quotes) {
            if (!stands(quote.words, sentences.get(quote.promise))) {
                faults.add(quote.section() + " does not say: " + quote.words);
            }
        }
        for (int section = 0; section < SECTIONS; section++) {
            if (sentences.get(section).isEmpty()) {
                faults.add("the document has no sentence in section " + section);
            }
            for (String sentence : sentences.get(section)) {
                if (!isQuoted(section, sentence, quotes)) {
                    faults.add("no case quotes (" + section + "): " + sentence);
                }
            }
        }
        return faults;
    }

    private static boolean stands(String words, List<String> sentences) {
        for (String sentence : sentences) {
            if (sentence.contains(words)) {
                return true;
            }
        }
        return false;
    }

    private static boolean isQuoted(int promise, String sentence, List<Cases.Quote> quotes) {
        for (Cases.Quote quote : quotes) {
            if (quote.promise == promise && sentence.contains(quote.words)) {
                return true;
            }
        }
        return false;
    }

    /** The sentences of each promise at its number, those of the other sections at the numbers that Cases gives. */
    private static List<List<String>> sentences() throws IOException {
        List<List<String>> all = new ArrayList<>();
        for (int section = 0; section < SECTIONS; section++) {
            all.add(new ArrayList<>());
        }
        int section = -1;
        for (String raw : Document.lines()) {
            String line = raw.replace("`", "").trim();
            if (line.startsWith("## ")) {
                section = sectionOf(line.substring("## ".length()));
            } else if (section >= 0 && isText(line)) {
                for (String sentence : line.split("(?<=\\.) ")) {
                    all.get(section).add(sentence);
                }
            }
        }
        return all;
    }

    /** -1 for the public face, which FaceTest holds the class to, line by line. */
    private static int sectionOf(String heading) {
        switch (heading) {
            case "What it is": return Cases.WHAT_IT_IS;
            case "Terms": return Cases.TERMS;
            case "Not promised": return Cases.NOT_PROMISED;
            case "The public face": return -1;
            default: return Integer.parseInt(heading.substring("Promise ".length(), heading.indexOf(':')));
        }
    }

    /** FaceTest holds the class to what the document says ahead of the calls. */
    private static boolean isText(String line) {
        return !line.isEmpty() && !line.startsWith("#") && !line.startsWith("Ahead of the calls") && !line.endsWith(":")
            && !NO_SENTENCES.contains(line);
    }
}
