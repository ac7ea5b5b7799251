import java.nio.charset.StandardCharsets;

/** What the tests share: comparing answers, and putting texts and rows on a TAPE. */
final class Check {
    private static int wrong = 0;
    private static int made = 0;
    private static String about = "";

    private Check() {
    }

    /** Names what the following checks are about. */
    static void about(String what) {
        about = what;
    }

    static void due(String call, long got, long want) {
        made++;
        if (got != want) {
            wrong++;
            System.out.println(about + ": " + call + " answered " + got + ", due is " + want);
        }
    }

    static int wrong() {
        return wrong;
    }

    static int made() {
        return made;
    }

    /** The TAPE is the text alone then. */
    static void tape(CounterDesk x, String text) {
        tape(x, text.getBytes(StandardCharsets.ISO_8859_1));
    }

    static void tape(CounterDesk x, byte[] bytes) {
        x.end(0);
        for (int i = 0; i < bytes.length; i += 20) {
            x.feed(four(bytes, i), four(bytes, i + 4), four(bytes, i + 8), four(bytes, i + 12), four(bytes, i + 16));
        }
        x.end(bytes.length);
    }

    static int four(byte[] bytes, int from) {
        int made = 0;
        for (int i = from; i < from + 4; i++) {
            made = made << 8 | (i < bytes.length ? bytes[i] & 255 : 0);
        }
        return made;
    }

    static byte[] bytes(int... values) {
        byte[] made = new byte[values.length];
        for (int i = 0; i < values.length; i++) {
            made[i] = (byte) values[i];
        }
        return made;
    }

    static int law(CounterDesk x, String text) {
        tape(x, text);
        return x.law();
    }

    static int orders(CounterDesk x, String text) {
        tape(x, text);
        return x.orders();
    }

    /** A LAW that must be readable, in FORCE. */
    static int inForce(CounterDesk x, String text) {
        int law = law(x, text);
        due("law(" + text + ") can be read", law >= 0 ? 1 : 0, 1);
        x.force(law);
        return law;
    }

    static void faultOfLaw(String text, int want) {
        CounterDesk x = new CounterDesk();
        due("law(" + text + ")", law(x, text), want == CounterDesk.NONE ? 0 : -6);
        due("fault of law(" + text + ")", x.fault(), want);
    }

    /** A refusal by the language alone: texts without FAULT must be such as can be run on the desk. */
    static void faultOfOrders(CounterDesk x, String text, int want) {
        int told = orders(x, text);
        due("orders(" + text + ") read", told != -6 ? 1 : 0, want == CounterDesk.NONE ? 1 : 0);
        due("fault of orders(" + text + ")", x.fault(), want);
    }

    /** A desk with NOTES of these pairs, UNDER and HERE. */
    static CounterDesk desk(int... pairs) {
        CounterDesk x = new CounterDesk();
        for (int i = 0; i + 1 < pairs.length; i += 2) {
            x.note(pairs[i], pairs[i + 1]);
        }
        return x;
    }

    static String times(String part, int n) {
        return part.repeat(n);
    }
}
