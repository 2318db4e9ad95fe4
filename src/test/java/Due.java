import java.nio.charset.StandardCharsets;

/** What the tests share: a new hall each, texts fed to it, and answers held against what is due. */
final class Due {
    static final int NONE = BurntHall.NONE;
    static final int RANGE = BurntHall.RANGE;
    static final int FULL = BurntHall.FULL;
    static final int STATE = BurntHall.STATE;

    private static int wrong = 0;
    private static int asked = 0;
    private static String context = "";

    private Due() {
    }

    /** What is asked from here on is told with this ahead of it. */
    static void begin(String words) {
        context = words;
    }

    static void is(String what, long got, long want) {
        asked++;
        if (got != want) {
            wrong++;
            System.out.println(context + what + " answered " + got + ", due is " + want);
        }
    }

    /** THE TAPE then has this text alone. */
    static BurntHall text(BurntHall x, String text) {
        byte[] bytes = text.getBytes(StandardCharsets.ISO_8859_1);
        x.end(0);
        for (int i = 0; i < bytes.length; i += 20) {
            x.feed(four(bytes, i), four(bytes, i + 4), four(bytes, i + 8), four(bytes, i + 12), four(bytes, i + 16));
        }
        is("end of the text", x.end(bytes.length), bytes.length);
        return x;
    }

    private static int four(byte[] bytes, int from) {
        int number = 0;
        for (int i = from; i < from + 4; i++) {
            number = number << 8 | (i < bytes.length ? bytes[i] & 255 : 32);
        }
        return number;
    }

    static void end() {
        System.out.println(asked + " answers, " + wrong + " not as due");
        if (wrong != 0) {
            System.exit(1);
        }
    }
}
