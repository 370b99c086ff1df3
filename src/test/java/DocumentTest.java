import java.io.IOException;
import java.nio.file.DirectoryStream;
import java.nio.file.Files;
import java.nio.file.Path;
import java.util.ArrayList;
import java.util.List;
import java.util.regex.Matcher;
import java.util.regex.Pattern;

/**
 * Holds the edge tests against the document: the words that they name stand in it, and each sentence of 'Terms' and
 * each argument, answer and refusal of a promise has a test that names words of it.
 */
final class DocumentTest {
    private static final Path DOCUMENT = Path.of("../shared/DOC.md");
    private static final Path TESTS = Path.of("src/test/java");
    private static final Pattern TERM = Pattern.compile("Edge\\.term\\(\"([^\"]*)\"");
    private static final Pattern PROMISE = Pattern.compile("Edge\\.(?:promise|range)\\((\\d+), \"([^\"]*)\"");

    /** What a sentence or a line says, and the promise that it belongs to, 0 for the terms. */
    record Piece(int promise, String text) {
    }

    public static void main(String[] args) throws IOException {
        if (!Files.exists(DOCUMENT)) {
            System.out.println("no document here, so nothing to hold the tests against");
            return;
        }
        List<Piece> document = pieces(Files.readAllLines(DOCUMENT));
        List<Piece> tests = named();
        Check.same("the document and the tests were found", true, document.size() > 200 && tests.size() > 200);
        for (Piece test : tests) {
            Check.same("words in the document: " + test, true, document.stream().anyMatch(x -> holds(x, test)));
        }
        for (Piece piece : document) {
            if (isAsked(piece)) {
                Check.same("a test of: " + piece, true, tests.stream().anyMatch(x -> holds(piece, x)));
            }
        }
        Check.end();
    }

    private static boolean holds(Piece piece, Piece test) {
        return piece.promise() == test.promise() && piece.text().contains(test.text());
    }

    /** What it is and headings say nothing that can be tested; what a promise says first, its answer says again. */
    private static boolean isAsked(Piece piece) {
        if (piece.promise() == 0) {
            return piece.text().length() > 20 && !piece.text().startsWith("A flight computer");
        }
        return List.of("- ", "Returns ", "Throws ").stream().anyMatch(piece.text()::startsWith);
    }

    private static List<Piece> pieces(List<String> lines) {
        List<Piece> pieces = new ArrayList<>();
        int promise = -1;
        for (String line : lines) {
            if (line.startsWith("## Promise ")) {
                promise = Integer.parseInt(line.substring(11, line.indexOf(':')));
            } else if (line.startsWith("## ")) {
                promise = line.equals("## Terms") || line.equals("## What it is") ? 0 : -1;
            } else if (promise == 0) {
                for (String sentence : line.split("(?<=\\.) (?=[A-Z])")) {
                    pieces.add(new Piece(0, sentence));
                }
            } else if (promise > 0) {
                pieces.add(new Piece(promise, line));
            }
        }
        return pieces;
    }

    private static List<Piece> named() throws IOException {
        List<Piece> all = new ArrayList<>();
        try (DirectoryStream<Path> files = Files.newDirectoryStream(TESTS, "*EdgeTest.java")) {
            for (Path file : files) {
                String text = Files.readString(file);
                for (Matcher found = TERM.matcher(text); found.find();) {
                    all.add(new Piece(0, found.group(1)));
                }
                for (Matcher found = PROMISE.matcher(text); found.find();) {
                    all.add(new Piece(Integer.parseInt(found.group(1)), found.group(2)));
                }
            }
        }
        return all;
    }
}
