import java.nio.charset.StandardCharsets;
import java.util.Arrays;

/** What the tests share: a row for each wrong answer, and texts fed to a lawn. */
final class Check {
    private int wrong = 0;
    private int asked = 0;

    void due(String call, long got, long want) {
        asked++;
        if (got != want) {
            wrong++;
            if (wrong <= 50) {
                System.out.println(call + " answered " + got + ", due is " + want);
            }
        }
    }

    void due(String call, boolean got, boolean want) {
        due(call, got ? 1 : 0, want ? 1 : 0);
    }

    int wrong() {
        return wrong;
    }

    void end(String name) {
        System.out.println(name + ": " + asked + " answers, " + wrong + " not as due");
        if (wrong != 0) {
            System.exit(1);
        }
    }

    /** Puts the text on the tape, which must have room for it and up to 19 blanks that go again. */
    static void tape(BandstandLawn lawn, byte[] text) {
        byte[] padded = Arrays.copyOf(text, (text.length + 19) / 20 * 20);
        for (int i = 0; i < padded.length; i += 20) {
            lawn.feed(word(padded, i), word(padded, i + 4), word(padded, i + 8), word(padded, i + 12),
                    word(padded, i + 16));
        }
        lawn.back(padded.length - text.length);
    }

    private static int word(byte[] bytes, int i) {
        return (bytes[i] & 255) << 24 | (bytes[i + 1] & 255) << 16 | (bytes[i + 2] & 255) << 8 | bytes[i + 3] & 255;
    }

    static int read(BandstandLawn lawn, String text) {
        tape(lawn, text.getBytes(StandardCharsets.ISO_8859_1));
        return lawn.read();
    }

    /** A new lawn on which a text without a fault was read. */
    BandstandLawn lawn(String text) {
        BandstandLawn lawn = new BandstandLawn();
        due("read of " + text, read(lawn, text), 0);
        return lawn;
    }
}
