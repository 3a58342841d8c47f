import java.io.IOException;
import java.lang.reflect.Method;
import java.nio.file.Files;
import java.nio.file.Path;
import java.util.ArrayList;
import java.util.List;

/**
 * Holds the tests of boundary cases to the document: what a test quotes stands in the section of its
 * promise or in what is said ahead of all promises, and each sentence of the sections and of the
 * description is quoted by a test.
 */
public final class DocumentTest {
    private static final Path DOCUMENT = Path.of("../shared/DOC.md");
    private static final int PROMISES = 24;

    private DocumentTest() {
    }

    public static void main(String[] args) throws IOException {
        String document = Files.readString(DOCUMENT);
        String preface = between(document, "## What it is\n", "\n## ");
        String description = between(document, "## Description\n", "\nExamples: ");
        List<Sentence> quotes = quotes();
        for (Sentence quote : quotes) {
            String said = preface + description + sectionOf(document, quote.promise());
            boolean stands = said.contains(quote.says());
            due("whether the document says for promise " + quote.promise() + ": " + quote.says(), stands);
        }
        for (int promise = 1; promise <= PROMISES; promise++) {
            for (String part : partsOfSection(sectionOf(document, promise))) {
                due("whether a test of promise " + promise + " quotes: " + part, isQuoted(quotes, promise, part));
            }
        }
        for (String sentence : sentences(description)) {
            due("whether a test quotes: " + sentence, isQuoted(quotes, 0, sentence));
        }
        Check.finish();
    }

    private static void due(String what, boolean holds) {
        Check.due(what, 1, holds ? 1 : 0);
    }

    private static List<Sentence> quotes() {
        List<Sentence> quotes = new ArrayList<>();
        for (Class<?> tests : Edges.TESTS) {
            for (Method test : tests.getDeclaredMethods()) {
                Sentence quote = test.getAnnotation(Sentence.class);
                if (quote != null) {
                    quotes.add(quote);
                }
            }
        }
        return quotes;
    }

    private static String between(String text, String start, String end) {
        int from = text.indexOf(start) + start.length();
        return text.substring(from, text.indexOf(end, from));
    }

    private static String sectionOf(String document, int promise) {
        return between(document, "## Promise " + promise + ": ", "\n## ");
    }

    /** The lines on arguments as they are; of the other lines each part up to a full stop or semicolon. */
    private static List<String> partsOfSection(String section) {
        List<String> parts = new ArrayList<>();
        String[] lines = section.split("\n");
        for (int i = 1; i < lines.length; i++) {
            if (lines[i].startsWith("- ")) {
                parts.add(lines[i].substring(2));
            } else if (!lines[i].startsWith("`") && !lines[i].startsWith("----")) {
                for (String sentence : sentences(lines[i])) {
                    parts.addAll(List.of(sentence.split("; ")));
                }
            }
        }
        return parts;
    }

    /** The sentences of a text, without their full stops and without titles of one word. */
    private static List<String> sentences(String text) {
        List<String> sentences = new ArrayList<>();
        for (String sentence : text.split("\\.\\s+|\\.$|\n")) {
            boolean isTitle = sentence.matches("[A-Z][a-z]+") && !sentence.equals("Undoable");
            if (!sentence.isBlank() && !isTitle) {
                sentences.add(sentence.trim());
            }
        }
        return sentences;
    }

    /** A quote may be the whole of a part, or the words of it that name the case; 0 is any promise. */
    private static boolean isQuoted(List<Sentence> quotes, int promise, String part) {
        for (Sentence quote : quotes) {
            boolean isOfPromise = promise == 0 || quote.promise() == promise;
            if (isOfPromise && (part.contains(quote.says()) || quote.says().contains(part))) {
                return true;
            }
        }
        return false;
    }
}
