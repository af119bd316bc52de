import java.io.IOException;
import java.io.UncheckedIOException;
import java.nio.file.Files;
import java.nio.file.Path;
import java.util.ArrayList;
import java.util.List;

/** The document, and which parts of it the tests have quoted. */
final class Document {
    private static final int PROMISES = 62;

    /** First all that stands ahead of the promises, then each promise. */
    private final String[] sections = new String[PROMISES + 1];
    private final boolean[][] quoted = new boolean[PROMISES + 1][];

    private Document(String text) {
        String terms = text.substring(text.indexOf("\n## What it is"), text.indexOf("\n## Promise 1:"));
        int face = terms.indexOf("```java");
        sections[0] = terms.substring(0, face) + terms.substring(terms.indexOf("```\n", face + 7) + 4);
        for (int promise = 1; promise <= PROMISES; promise++) {
            int start = text.indexOf("\n## Promise " + promise + ":");
            sections[promise] = text.substring(start, text.indexOf("\n## ", start + 1));
        }
        for (int i = 0; i <= PROMISES; i++) {
            quoted[i] = new boolean[sections[i].length()];
        }
    }

    static Document read() {
        try {
            return new Document(Files.readString(Path.of("../shared/DOC.md")));
        } catch (IOException e) {
            throw new UncheckedIOException(e);
        }
    }

    /** Tells whether the sentence stands in the promise, or ahead of all promises. */
    boolean quote(int promise, String sentence) {
        boolean isInPromise = mark(promise, sentence);
        boolean isInTerms = mark(0, sentence);
        return isInPromise || isInTerms;
    }

    private boolean mark(int section, String sentence) {
        int at = sections[section].indexOf(sentence);
        boolean isFound = at >= 0;
        while (at >= 0) {
            for (int i = 0; i < sentence.length(); i++) {
                quoted[section][at + i] = true;
            }
            at = sections[section].indexOf(sentence, at + 1);
        }
        return isFound;
    }

    /**
     * The sentences in which a number, a parameter or an exception stands in no quotation, as these name boundaries;
     * and the sentences ahead of the promises that nothing at all is quoted from.
     */
    List<String> unquoted() {
        List<String> found = new ArrayList<>();
        for (int section = 0; section <= PROMISES; section++) {
            int start = 0;
            for (String line : sections[section].split("\n")) {
                if (!isOfNoAccount(line)) {
                    addUnquoted(section, start, line, found);
                }
                start += line.length() + 1;
            }
        }
        return found;
    }

    private void addUnquoted(int section, int lineStart, String line, List<String> found) {
        // The number or the bullet of a line of a list is no part of its sentence.
        int start = line.matches("(\\d\\.|-) .*") ? line.indexOf(' ') + 1 : 0;
        for (String sentence : line.substring(start).split("(?<=[.)]) (?=[A-Z(\"])")) {
            boolean isOfNoBoundary = sentence.startsWith("A mix has a source, a servo, a share");
            if (!isOfNoBoundary && lacksQuotation(section, lineStart + start, sentence)) {
                found.add((section == 0 ? "the terms" : "promise " + section) + ": " + sentence);
            }
            start += sentence.length() + 1;
        }
    }

    private static boolean isOfNoAccount(String line) {
        return line.isBlank() || line.startsWith("#") || line.startsWith("`") || line.startsWith("Ahead of the calls")
            || line.startsWith("A radio system for model planes") || line.equals("Frames, failsafe")
            || line.equals("Undo, memories") || line.endsWith("is one of the following:")
            || line.endsWith("the following happens in this order:");
    }

    private boolean lacksQuotation(int section, int start, String sentence) {
        boolean isWhollyDue = sentence.startsWith("`") || sentence.startsWith("Throws ");
        boolean isAnythingQuoted = false;
        for (int i = 0; i < sentence.length(); i++) {
            boolean isQuoted = quoted[section][start + i];
            isAnythingQuoted |= isQuoted;
            if (!isQuoted && (isWhollyDue || Character.isDigit(sentence.charAt(i)))) {
                return true;
            }
        }
        return section == 0 && !isAnythingQuoted;
    }
}
