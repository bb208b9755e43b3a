import java.nio.charset.StandardCharsets;

/** Counts the answers that are not as due, and feeds texts to an object. */
final class Check {
    private final String name;
    private int asked;
    private int wrong;

    Check(String name) {
        this.name = name;
    }

    void due(String call, long want, long got) {
        asked++;
        if (got != want) {
            wrong++;
            if (wrong <= 30) {
                System.out.println(name + ": " + call + " answered " + got + ", due is " + want);
            }
        }
    }

    void due(String call, boolean want, boolean got) {
        due(call, want ? 1 : 0, got ? 1 : 0);
    }

    int wrongOnes() {
        return wrong;
    }

    /** Ends the program: with 1 if an answer was not as due, or nothing was asked. */
    void close() {
        System.out.println(name + ": " + asked + " answers, " + wrong + " not as due");
        if (wrong != 0 || asked == 0) {
            System.exit(1);
        }
    }

    static byte[] bytes(String text) {
        return text.getBytes(StandardCharsets.ISO_8859_1);
    }

    /** Four bytes from a place on as an int, the highest first; 0 where there are none. */
    static int word(byte[] bytes, int at) {
        int word = 0;
        for (int i = at; i < at + 4; i++) {
            word = word << 8 | (i < bytes.length ? bytes[i] & 255 : 0);
        }
        return word;
    }

    /** Puts a text of 500 bytes at most on an empty tape; how many calls that took. */
    static int put(GoldenRows x, String text) {
        byte[] b = bytes(text);
        int calls = 0;
        for (int i = 0; i < b.length; i += 20) {
            x.feed(word(b, i), word(b, i + 4), word(b, i + 8), word(b, i + 12), word(b, i + 16));
            calls++;
        }
        x.end(b.length);
        return calls + 1;
    }

    static int rules(GoldenRows x, String text) {
        put(x, text);
        return x.rules();
    }
}
