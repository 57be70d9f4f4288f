import java.io.IOException;
import java.nio.file.Files;
import java.nio.file.Path;
import java.util.ArrayList;
import java.util.List;

/** Holds the quotes of the boundary cases against the document: each stands there, and no sentence is left out. */
final class Quotes {
    private static final Path DOCUMENT = Path.of("../shared/DOC.md");
    private static final int PROMISES = 28;

    /** Lines of "Terms" that are headings, or tell how the interface is laid out. */
    private static final List<String> NO_SENTENCES = List.of("Blocks, files", "Growing, cutting", "Snapshots, undo");

    private Quotes() {
    }

    /** What is wrong, a line each. */
    static List<String> faults(List<Cases.Quote> quotes) throws IOException {
        List<List<String>> sentences = sentences();
        List<String> faults = new ArrayList<>();
        for (Cases.Quote quote : quotes) {
            if (!stands(quote.words, sentences.get(quote.promise))) {
                faults.add("the document does not say (" + quote.promise + "): " + quote.words);
            }
        }
        for (int promise = 0; promise <= PROMISES; promise++) {
            for (String sentence : sentences.get(promise)) {
                if (!isQuoted(promise, sentence, quotes)) {
                    faults.add("no case quotes (" + promise + "): " + sentence);
                }
            }
        }
        return faults;
    }

    private static boolean stands(String words, List<String> sentences) {
        for (String sentence : sentences) {
            if (sentence.contains(words)) {
                return true;
            }
        }
        return false;
    }

    private static boolean isQuoted(int promise, String sentence, List<Cases.Quote> quotes) {
        for (Cases.Quote quote : quotes) {
            if (quote.promise == promise && sentence.contains(quote.words)) {
                return true;
            }
        }
        return false;
    }

    /** The sentences of "Terms" at 0, those of each promise at its number. */
    private static List<List<String>> sentences() throws IOException {
        List<List<String>> all = new ArrayList<>();
        for (int promise = 0; promise <= PROMISES; promise++) {
            all.add(new ArrayList<>());
        }
        int promise = -1;
        for (String raw : Files.readAllLines(DOCUMENT)) {
            String line = raw.replace("`", "").trim();
            if (line.startsWith("## ")) {
                promise = line.equals("## Terms") ? 0 : line.startsWith("## Promise ") ? numberIn(line) : -1;
            } else if (promise >= 0 && isText(line)) {
                for (String sentence : line.split("(?<=\\.) ")) {
                    all.get(promise).add(sentence);
                }
            }
        }
        return all;
    }

    private static int numberIn(String heading) {
        return Integer.parseInt(heading.substring("## Promise ".length(), heading.indexOf(':')));
    }

    private static boolean isText(String line) {
        return !line.isEmpty() && !line.startsWith("#") && !line.startsWith("Ahead of the calls") && !line.endsWith(":")
            && !NO_SENTENCES.contains(line);
    }
}
