import java.io.IOException;
import java.nio.file.Files;
import java.nio.file.Path;
import java.util.ArrayList;
import java.util.List;

/** The document's own text, to find sentences that no test holds, and tests of sentences that it does not have. */
final class Document {
    private final List<String> boundaries = new ArrayList<>();
    private final List<String> others = new ArrayList<>();
    private final List<String> face = new ArrayList<>();

    private Document() {
    }

    /** Returns null if the document is not there. */
    static Document at(String path) {
        if (path == null || !Files.isReadable(Path.of(path))) {
            return null;
        }
        Document document = new Document();
        try {
            document.read(Files.readString(Path.of(path)));
        } catch (IOException failure) {
            throw new AssertionError(failure);
        }
        return document;
    }

    /** The sentences that have to be tested: all terms, each 'Throws', and each line of a promise with a number. */
    List<String> boundaries() {
        return boundaries;
    }

    boolean has(String key) {
        return boundaries.contains(key) || others.contains(key);
    }

    /** The constructor and the methods, without the names of their parameters. */
    List<String> face() {
        return face;
    }

    private void read(String text) {
        for (String section : text.split("\n## ")) {
            if (section.startsWith("The public face\n")) {
                readFace(section);
            } else if (section.startsWith("What it is\n")) {
                readTerms(section.substring(section.indexOf('\n')), false);
            } else if (section.startsWith("Terms\n")) {
                readTerms(section.substring(section.indexOf('\n')), true);
            } else if (section.startsWith("Promise ")) {
                readPromise(section);
            }
        }
    }

    private void readFace(String section) {
        for (String line : section.split("\n")) {
            if (line.startsWith("    public ")) {
                // A parameter's name begins with a small letter, an exception's name behind 'throws' does not.
                face.add(line.strip().replace(";", "").replaceAll("([a-z]+) [a-z]\\w*(?=[,)])", "$1"));
            }
        }
    }

    private void readTerms(String text, boolean inTerms) {
        boolean first = true;
        for (String paragraph : text.strip().split("\n\n")) {
            // The first paragraph tells what the others say again, and the last ones are no sentences of the study.
            boolean binding = inTerms && !first && !paragraph.startsWith("Ahead of the calls");
            for (String sentence : oneLine(paragraph).split("(?<=\\.) (?=[A-Z])")) {
                // A paragraph of the terms begins with its name.
                boolean name = sentence.split(" ").length < 4;
                (binding && !name ? boundaries : others).add(Sentences.key(Sentences.TERMS, sentence));
            }
            first = false;
        }
    }

    private void readPromise(String section) {
        int promise = Integer.parseInt(section.substring("Promise ".length(), section.indexOf(':')));
        String body = section.substring(section.indexOf('\n'));
        for (String paragraph : body.replace("\n- ", "\n\n- ").strip().split("\n\n+")) {
            String line = oneLine(paragraph);
            // The first paragraph of a promise begins with the method's face.
            String sentence = line.startsWith("`") ? line.substring(line.indexOf("`: ") + 3) : line;
            boolean boundary = line.startsWith("Throws ") || sentence.matches(".*[0-9].*");
            (boundary ? boundaries : others).add(Sentences.key(promise, sentence));
        }
    }

    private static String oneLine(String paragraph) {
        return paragraph.strip().replaceAll("\\s+", " ");
    }
}
