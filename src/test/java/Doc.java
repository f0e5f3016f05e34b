import java.io.IOException;
import java.io.UncheckedIOException;
import java.nio.file.Files;
import java.nio.file.Path;
import java.util.TreeSet;

/** The document's own words: a test says which sentence it is of, and that sentence must stand there. */
final class Doc {
    private static final String TEXT = read();
    private static final TreeSet<Integer> named = new TreeSet<>();

    private Doc() {
    }

    private static String read() {
        try {
            return Files.readString(Path.of("../shared/DOC.md"));
        } catch (IOException e) {
            throw new UncheckedIOException(e);
        }
    }

    /** What is checked from here on is of this sentence of a promise. */
    static void promise(int number, String sentence) {
        named.add(number);
        quote("Promise " + number, between("## Promise " + number + ": ", "## "), sentence);
    }

    static void termsI(String sentence) {
        quote("Terms I", between("I. SIGNS", "II. REGISTERS"), sentence);
    }

    static void termsII(String sentence) {
        quote("Terms II", between("II. REGISTERS", "The constants:"), sentence);
    }

    static void preface(String sentence) {
        quote("What it is", between("## What it is", "## "), sentence);
    }

    /** A promise that no sentence was named of has no test of its own. */
    static void dueAll(int first, int last) {
        Check.under("every promise is named");
        for (int number = first; number <= last; number++) {
            Check.due("promise " + number, named.contains(number) ? 1 : 0, 1);
        }
    }

    private static void quote(String where, String section, String sentence) {
        Check.under(where + ", \"" + sentence + "\"");
        boolean stands = oneLine(section).contains(oneLine(sentence));
        Check.due("it stands in the document", stands ? 1 : 0, 1);
    }

    private static String between(String head, String next) {
        int from = TEXT.indexOf(head);
        if (from < 0) {
            return "";
        }
        int to = TEXT.indexOf(next, from + head.length());
        return to < 0 ? TEXT.substring(from) : TEXT.substring(from, to);
    }

    private static String oneLine(String text) {
        return text.replaceAll("\\s+", " ");
    }
}
