import java.io.IOException;
import java.io.UncheckedIOException;
import java.nio.charset.StandardCharsets;
import java.nio.file.Files;
import java.nio.file.Path;
import java.util.Arrays;

/** Compares answers with those that are due and ends a test. */
final class Checks {
    private static final Path DOCUMENT = Path.of("..", "shared", "DOC.md");
    private final String test;
    private String document = null;
    private String sentence = "";
    private int wrong = 0;
    private int all = 0;

    Checks(String test) {
        this.test = test;
    }

    void due(String call, long got, long want) {
        all++;
        if (got != want) {
            wrong++;
            System.out.println(test + ": " + sentence + call + " answered " + got + ", due is " + want);
        }
    }

    /** What comes next tests these words, which must be the document's own. */
    void sentence(String words) {
        sentence = "\"" + words + "\": ";
        if (document == null) {
            try {
                document = Files.readString(DOCUMENT);
            } catch (IOException e) {
                throw new UncheckedIOException(e);
            }
        }
        due("the document says it", document.contains(words) ? 1 : 0, 1);
    }

    /** Ends the program with 1 if an answer was not as due. */
    void finish() {
        System.out.println(test + ": " + all + " answers, " + wrong + " not as due");
        if (wrong != 0) {
            System.exit(1);
        }
    }

    /** Puts a text on the tape, behind what is there. */
    static void write(CountGates x, String text) {
        write(x, text.getBytes(StandardCharsets.ISO_8859_1));
    }

    static void write(CountGates x, byte[] bytes) {
        int stop = x.count(6) + bytes.length;
        byte[] padded = Arrays.copyOf(bytes, (bytes.length + 19) / 20 * 20);
        for (int i = 0; i < padded.length; i += 20) {
            x.feed(four(padded, i), four(padded, i + 4), four(padded, i + 8), four(padded, i + 12), four(padded, i + 16));
        }
        x.end(stop);
    }

    private static int four(byte[] bytes, int i) {
        return (bytes[i] & 255) << 24 | (bytes[i + 1] & 255) << 16 | (bytes[i + 2] & 255) << 8 | bytes[i + 3] & 255;
    }

    static int law(CountGates x, String text) {
        write(x, text);
        return x.law();
    }

    static int orders(CountGates x, String text) {
        write(x, text);
        return x.orders();
    }

    /** A law that is in force at once. */
    static void force(CountGates x, String text) {
        x.force(law(x, text));
    }
}
