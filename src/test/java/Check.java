import java.nio.charset.StandardCharsets;

/** Counts the answers that are not the ones that are due, and has the longer calls that many tests need. */
final class Check {
    static final int NONE = -1000000, BAD = -1000001, STATE = -1000002, FULL = -1000003;
    static final int NULL = -1000011, PLACE = -1000012, KIND = -1000013, SIZE = -1000014, STORE = -1000015;

    private final String test;
    private int seen = 0;
    private int wrong = 0;

    Check(String test) {
        this.test = test;
    }

    void due(String call, long want, long got) {
        seen++;
        if (got != want) {
            wrong++;
            System.out.println(test + ": " + call + " answered " + got + ", due is " + want);
        }
    }

    void end() {
        System.out.println(test + ": " + seen + " answers, " + wrong + " of them wrong");
        if (wrong != 0 || seen == 0) {
            System.exit(1);
        }
    }

    /** Feeds a text, by eight bytes at a time: how many bytes the tape has. */
    static int feed(VillageHalls x, String text) {
        byte[] bytes = text.getBytes(StandardCharsets.ISO_8859_1);
        int answer = x.count(8);
        for (int i = 0; i < bytes.length; i += 8) {
            int n = Math.min(8, bytes.length - i);
            long w = 0;
            for (int j = 0; j < n; j++) {
                w = w << 8 | (bytes[i + j] & 255);
            }
            answer = x.feed(w, n);
        }
        return answer;
    }

    static int rules(VillageHalls x, String text) {
        feed(x, text);
        return x.rules();
    }

    /** A booking told by sheet 7: HALL, FLOOR, day, from, to, people, USE, LICENCE, CAME. */
    static int book(VillageHalls x, int... items) {
        x.sheet(7, 2, items.length);
        for (int i = 0; i < items.length; i++) {
            x.set(7, i, items[i]);
        }
        return x.book(7, 0);
    }
}
