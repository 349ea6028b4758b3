import java.io.IOException;
import java.io.UncheckedIOException;
import java.nio.charset.StandardCharsets;
import java.nio.file.Files;
import java.nio.file.Path;

/** Counts the answers that are not as due, and prints them. */
final class Due {
    private String document;
    private String sentence = "";
    private int asked;
    private int wrong;

    /** Words of the document that the answers behind this hold; they must stand there, sign for sign. */
    void sentence(String words) {
        sentence = words;
        is("these words stand in the document", document().contains(words), true);
    }

    private String document() {
        if (document == null) {
            try {
                document = Files.readString(Path.of("../shared/DOC.md"), StandardCharsets.UTF_8);
            } catch (IOException e) {
                throw new UncheckedIOException(e);
            }
        }
        return document;
    }

    void is(String call, long got, long want) {
        asked++;
        if (got != want) {
            wrong++;
            System.out.println("  " + call + " answered " + got + ", due is " + want
                + (sentence.isEmpty() ? "" : " ['" + sentence + "']"));
        }
    }

    void is(String call, boolean got, boolean want) {
        is(call, got ? 1 : 0, want ? 1 : 0);
    }

    /** A call that is done: its answer, and STATUS 0. */
    void done(WheelTables x, String call, long got, long want) {
        is(call, got, want);
        is("status() behind " + call, x.status(), 0);
    }

    void done(WheelTables x, String call, boolean got) {
        done(x, call, got ? 1 : 0, 1);
    }

    /** A call that is refused: NONE and the STATUS that is due. */
    void refused(WheelTables x, String call, long got, int status) {
        is(call, got, WheelTables.NONE);
        is("status() behind " + call, x.status(), status);
    }

    void refused(WheelTables x, String call, boolean got, int status) {
        is(call, got, false);
        is("status() behind " + call, x.status(), status);
    }

    /** Ends the program: with 1 if an answer was wrong. */
    void end() {
        System.out.println("  " + asked + " answers, " + wrong + " not as due");
        if (wrong != 0) {
            System.exit(1);
        }
    }
}
