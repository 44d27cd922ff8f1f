import java.nio.charset.StandardCharsets;

/** What the tests share: counting wrong answers, and bringing bytes onto a TAPE. */
final class Check {
    static final int MIN = Integer.MIN_VALUE;
    static final int MAX = Integer.MAX_VALUE;
    private static int wrong;
    private static String part = "";

    private Check() {
    }

    static void part(String name) {
        part = name;
    }

    static void due(String what, long got, long want) {
        if (got != want) {
            wrong++;
            System.out.println(part + ": " + what + " answered " + got + ", due is " + want);
        }
    }

    static void due(String what, boolean so) {
        due(what, so ? 1 : 0, 1);
    }

    static void close() {
        System.out.println(wrong == 0 ? "all answers are as due" : wrong + " answers are not as due");
        if (wrong != 0) {
            System.exit(1);
        }
    }

    static void tape(NoRent x, byte[] bytes) {
        x.end(0);
        for (int i = 0; i < bytes.length; i += 20) {
            int[] n = new int[5];
            for (int k = 0; k < 20; k++) {
                n[k / 4] = n[k / 4] << 8 | (i + k < bytes.length ? bytes[i + k] & 255 : 0);
            }
            x.feed(n[0], n[1], n[2], n[3], n[4]);
        }
        x.end(bytes.length);
    }

    static void tape(NoRent x, String text) {
        tape(x, text.getBytes(StandardCharsets.ISO_8859_1));
    }

    static void tape(NoRent x, float... floats) {
        byte[] bytes = new byte[floats.length * 4];
        for (int i = 0; i < floats.length; i++) {
            int bits = Float.floatToRawIntBits(floats[i]);
            for (int k = 0; k < 4; k++) {
                bytes[i * 4 + k] = (byte) (bits >>> 24 - 8 * k);
            }
        }
        tape(x, bytes);
    }

    static int text(NoRent x, int from, String text) {
        tape(x, text);
        return x.text(from);
    }

    static int row(NoRent x, int week, int from, float... floats) {
        tape(x, floats);
        return x.row(week, from);
    }

    /** FAULT of a TEXT, NONE if it can be. */
    static int faultOf(String text) {
        NoRent x = new NoRent();
        int answer = text(x, 0, text);
        due("text of \"" + text + "\"", answer, x.fault() == NoRent.NONE ? 0 : -6);
        due("count(9) behind it", x.count(9), 0);
        due("count(4) behind it", x.count(4), x.fault() == NoRent.NONE ? 1 : 0);
        return x.fault();
    }
}
