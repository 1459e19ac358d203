/** Keeps count of answers that are not the ones that are due. */
final class Due {
    private int asked = 0;
    private int wrong = 0;

    /** One answer: what was called, what it gave, what is due. */
    void is(String call, long got, long want) {
        asked++;
        if (got != want) {
            wrong++;
            System.out.println(call + " answered " + got + ", due is " + want);
        }
    }

    /** To be called last: ends with 1 if an answer was wrong. */
    void end() {
        System.out.println(asked + " answers, " + wrong + " not as due");
        if (wrong != 0 || asked == 0) {
            System.exit(1);
        }
    }

    /** Puts a text on the tape of an object: 12 bytes at a time, then cut to its length. */
    static int write(NeverSaid x, String text) {
        byte[] bytes = text.getBytes(java.nio.charset.StandardCharsets.ISO_8859_1);
        int had = x.count(7);
        for (int i = 0; i < bytes.length; i += 12) {
            x.feed(number(bytes, i), number(bytes, i + 4), number(bytes, i + 8));
        }
        return x.trim(had + bytes.length);
    }

    /** Puts a text on the tape and has it read. */
    static int text(NeverSaid x, String text) {
        write(x, text);
        return x.text();
    }

    private static int number(byte[] bytes, int from) {
        int n = 0;
        for (int i = from; i < from + 4; i++) {
            n = n << 8 | (i < bytes.length ? bytes[i] & 255 : 0);
        }
        return n;
    }
}
