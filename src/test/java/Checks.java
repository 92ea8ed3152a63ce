import java.nio.charset.StandardCharsets;

/** What the tests share: counting wrong answers, and feeding texts. */
final class Checks {
    private int done;
    private int wrong;
    private String place = "";

    /** Names what the next checks are about. */
    void at(String name) {
        place = name;
    }

    void due(String call, long got, long want) {
        done++;
        if (got != want) {
            wrong++;
            System.out.println(place + ": " + call + " answered " + got + ", due is " + want);
        }
    }

    void due(String call, Object got, Object want) {
        done++;
        if (!got.equals(want)) {
            wrong++;
            System.out.println(place + ": " + call + " answered " + got + ", due is " + want);
        }
    }

    /** Feeds a text by eight bytes at a time: how many the tape has. */
    static int feed(WalkingStones x, String text) {
        byte[] bytes = text.getBytes(StandardCharsets.ISO_8859_1);
        int answer = x.count(7);
        for (int from = 0; from < bytes.length; from += 8) {
            int n = Math.min(8, bytes.length - from);
            answer = x.feed(n, packed(bytes, from, n));
        }
        return answer;
    }

    static long packed(byte[] bytes, int from, int n) {
        long all = 0;
        for (int k = 0; k < n; k++) {
            all |= (bytes[from + k] & 255L) << 8 * k;
        }
        return all;
    }

    /** Feeds a text and has it read. */
    static int read(WalkingStones x, String text) {
        feed(x, text);
        return x.text();
    }

    void end() {
        System.out.println(done + " checks, " + wrong + " wrong");
        if (wrong != 0) {
            System.exit(1);
        }
    }
}
