import java.io.IOException;
import java.nio.charset.StandardCharsets;
import java.nio.file.Files;
import java.nio.file.Path;
import java.util.function.IntToLongFunction;

/** What the tests share: counting wrong answers, ranges of numbers, and feeding texts. */
final class Checks {
    private static final Path DOCUMENT = Path.of("../shared/DOC.md");
    private int done;
    private int wrong;
    private String place = "";
    private String document;

    /** Names what the next checks are about. */
    void at(String name) {
        place = name;
    }

    /** Names the document's words that the next checks are about; they must stand there. */
    void says(String words) {
        place = "'" + words + "'";
        done++;
        if (!document().contains(oneLine(words))) {
            wrong++;
            System.out.println(place + ": the document doesn't say so");
        }
    }

    private String document() {
        if (document == null) {
            try {
                document = oneLine(Files.readString(DOCUMENT));
            } catch (IOException e) {
                document = "";
                System.out.println("no document at " + DOCUMENT);
            }
        }
        return document;
    }

    private static String oneLine(String words) {
        return words.replaceAll("\\s+", " ");
    }

    void due(String call, long got, long want) {
        done++;
        if (got != want) {
            wrong++;
            System.out.println(place + ": " + call + " answered " + got + ", due is " + want);
        }
    }

    void due(String call, Object got, Object want) {
        done++;
        if (!got.equals(want)) {
            wrong++;
            System.out.println(place + ": " + call + " answered " + got + ", due is " + want);
        }
    }

    /**
     * A number of a call that goes from least to most: both are taken, and all others are refused that lie next to them, or
     * off by a power of two (as if a number were cut to fewer bits), or at the ends of an int.
     */
    void range(String name, int least, int most, long refusal, IntToLongFunction call) {
        taken(name, least, refusal, call);
        taken(name, most, refusal, call);
        refused(name, least, most, least - 1, refusal, call);
        refused(name, least, most, most + 1, refusal, call);
        refused(name, least, most, Integer.MIN_VALUE, refusal, call);
        refused(name, least, most, Integer.MAX_VALUE, refusal, call);
        for (int k = 1; k < 32; k++) {
            refused(name, least, most, least + (1 << k), refusal, call);
            refused(name, least, most, most + (1 << k), refusal, call);
            refused(name, least, most, least - (1 << k), refusal, call);
        }
    }

    private void taken(String name, int number, long refusal, IntToLongFunction call) {
        due(name + " " + number + " is taken", call.applyAsLong(number) != refusal, true);
    }

    private void refused(String name, int least, int most, int number, long refusal, IntToLongFunction call) {
        if (number < least || number > most) {
            due(name + " " + number, call.applyAsLong(number), refusal);
        }
    }

    /** Feeds a text by eight bytes at a time: how many the tape has. */
    static int feed(WalkingStones x, String text) {
        byte[] bytes = text.getBytes(StandardCharsets.ISO_8859_1);
        int answer = x.count(7);
        for (int from = 0; from < bytes.length; from += 8) {
            int n = Math.min(8, bytes.length - from);
            answer = x.feed(n, packed(bytes, from, n));
        }
        return answer;
    }

    static long packed(byte[] bytes, int from, int n) {
        long all = 0;
        for (int k = 0; k < n; k++) {
            all |= (bytes[from + k] & 255L) << 8 * k;
        }
        return all;
    }

    /** Feeds a text and has it read. */
    static int read(WalkingStones x, String text) {
        feed(x, text);
        return x.text();
    }

    void end() {
        System.out.println(done + " checks, " + wrong + " wrong");
        if (wrong != 0) {
            System.exit(1);
        }
    }
}
