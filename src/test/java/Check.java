import java.nio.charset.StandardCharsets;
import java.util.Arrays;

/** What the tests share: a row for each wrong answer, and texts fed to a lawn. */
final class Check {
    private int wrong = 0;
    private int asked = 0;
    private int sentences = 0;
    private String sentence = "";

    /** What comes behind this is asked because of these words of the document. */
    void says(String words) {
        sentences++;
        sentence = "\"" + words + "\": ";
    }

    void due(String call, long got, long want) {
        asked++;
        if (got != want) {
            wrong++;
            if (wrong <= 50) {
                System.out.println(sentence + call + " answered " + got + ", due is " + want);
            }
        }
    }

    void due(String call, boolean got, boolean want) {
        due(call, got ? 1 : 0, want ? 1 : 0);
    }

    /** Which FAULT a text has on a new object, and where. */
    void fault(String text, int number, int place) {
        BandstandLawn lawn = new BandstandLawn();
        String shown = text.length() > 60 ? text.substring(0, 60) + ".." : text;
        due("read of " + shown, read(lawn, text), number);
        due("place of " + shown, lawn.place(), place);
    }

    void fine(String text) {
        fault(text, 0, BandstandLawn.NONE);
    }

    /** That two looks at a lawn show the same. */
    void same(String call, String before, String behind) {
        due(call + ", and nothing happens (" + before + " before, " + behind + " then)", before.equals(behind), true);
    }

    int wrong() {
        return wrong;
    }

    void end(String name) {
        System.out.println(name + ": " + (sentences == 0 ? "" : sentences + " sentences, ") + asked + " answers, " + wrong
                + " not as due");
        if (wrong != 0) {
            System.exit(1);
        }
    }

    /** Puts the text on the tape, which must have room for it and up to 19 blanks that go again. */
    static void tape(BandstandLawn lawn, byte[] text) {
        byte[] padded = Arrays.copyOf(text, (text.length + 19) / 20 * 20);
        for (int i = 0; i < padded.length; i += 20) {
            lawn.feed(word(padded, i), word(padded, i + 4), word(padded, i + 8), word(padded, i + 12),
                    word(padded, i + 16));
        }
        lawn.back(padded.length - text.length);
    }

    private static int word(byte[] bytes, int i) {
        return (bytes[i] & 255) << 24 | (bytes[i + 1] & 255) << 16 | (bytes[i + 2] & 255) << 8 | bytes[i + 3] & 255;
    }

    static int read(BandstandLawn lawn, String text) {
        tape(lawn, text.getBytes(StandardCharsets.ISO_8859_1));
        return lawn.read();
    }

    /** A new lawn on which a text without a fault was read. */
    BandstandLawn lawn(String text) {
        BandstandLawn lawn = new BandstandLawn();
        due("read of " + text, read(lawn, text), 0);
        return lawn;
    }

    /** All of a lawn that is answered without asking what would be; some 240 calls at most. */
    static String seen(BandstandLawn lawn) {
        StringBuilder seen = new StringBuilder();
        for (int what = 0; what < 20; what++) {
            seen.append(lawn.count(what)).append(' ');
        }
        for (int cell = 0; cell < lawn.count(0) * lawn.count(1); cell++) {
            for (int what = 0; what < 6; what++) {
                seen.append(lawn.cell(cell, what)).append(',');
            }
        }
        for (int goer = 0; goer < lawn.count(2); goer++) {
            for (int what = 0; what < 4; what++) {
                seen.append(lawn.goer(goer, what)).append(',');
            }
        }
        return seen.append(lawn.place()).append(' ').append(lawn.fits(lawn.count(10), 1)).toString();
    }
}
