import java.io.IOException;
import java.nio.file.Files;
import java.nio.file.Path;
import java.util.ArrayList;
import java.util.BitSet;
import java.util.List;

/** The document's sentences, by promise (0 for its description), and which of them a test has named. */
final class Document {
    private static final int PROMISES = 29;

    private final boolean[] found = new boolean[PROMISES + 1];
    private final List<List<String>> sentences = new ArrayList<>();
    private final List<BitSet> named = new ArrayList<>();

    /** Without a file nothing is compared, and every quotation is taken as it is. */
    Document(Path file) throws IOException {
        for (int promise = 0; promise <= PROMISES; promise++) {
            sentences.add(new ArrayList<>());
            named.add(new BitSet());
        }
        if (Files.exists(file)) {
            read(Files.readAllLines(file));
        }
    }

    private void read(List<String> lines) {
        int promise = -1;
        for (String line : lines) {
            if (line.startsWith("## ")) {
                promise = sectionOf(line);
            } else if (line.startsWith("Examples:")) {
                promise = -1;
            } else if (promise >= 0 && isText(line)) {
                found[promise] = true;
                String text = line.startsWith("- ") ? line.substring(2) : line;
                sentences.get(promise).addAll(List.of(text.split("(?<=\\.|\\.\\)) +")));
            }
        }
    }

    private static int sectionOf(String heading) {
        if (heading.startsWith("## Promise ")) {
            return Integer.parseInt(heading.substring(11, heading.indexOf(':')));
        }
        return heading.equals("## Description") || heading.equals("## What it is") ? 0 : -1;
    }

    /** What is no text: empty lines, signatures, dividing lines, and the line that sums all up. */
    private static boolean isText(String line) {
        return !line.isBlank() && !line.startsWith("`") && !line.startsWith("----")
                && !line.startsWith("A library ");
    }

    /** A word or two before a paragraph, such as "Network." and "Pairs and routes." */
    private static boolean isTitle(String sentence) {
        return sentence.matches("[A-Z][a-z]+( and [a-z]+)?\\.");
    }

    /** Marks all places of a quotation; false if it does not stand in the promise's section. */
    boolean name(int promise, String quotation) {
        String whole = String.join(" ", sentences.get(promise));
        int place = whole.indexOf(quotation);
        boolean stands = place >= 0;
        while (place >= 0) {
            named.get(promise).set(place, place + quotation.length());
            place = whole.indexOf(quotation, place + 1);
        }
        return stands || !isRead();
    }

    boolean isRead() {
        for (boolean one : found) {
            if (!one) {
                return false;
            }
        }
        return true;
    }

    List<String> notNamed() {
        List<String> left = new ArrayList<>();
        for (int promise = 0; promise <= PROMISES; promise++) {
            int place = 0;
            for (String sentence : sentences.get(promise)) {
                int next = named.get(promise).nextSetBit(place);
                boolean isNamed = next >= 0 && next < place + sentence.length();
                if (!isNamed && !isTitle(sentence)) {
                    left.add(promise + ": " + sentence);
                }
                place += sentence.length() + 1;
            }
        }
        return left;
    }
}
