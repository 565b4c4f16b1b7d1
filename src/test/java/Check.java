import java.nio.charset.StandardCharsets;

/** Counts wrong answers, and feeds texts. */
final class Check {
    private int wrong = 0;
    private int asked = 0;

    void due(String call, long got, long want) {
        asked++;
        if (got != want) {
            wrong++;
            if (wrong <= 40) {
                System.out.println(call + " answered " + got + ", due is " + want);
            }
        }
    }

    void due(String call, boolean got, boolean want) {
        due(call, got ? 1 : 0, want ? 1 : 0);
    }

    boolean isWrong() {
        return wrong != 0;
    }

    void close() {
        System.out.println(asked + " answers, " + wrong + " of them wrong");
        if (wrong != 0 || asked == 0) {
            System.exit(1);
        }
    }

    /** Four bytes of a text, blanks behind its end. */
    static int four(byte[] text, int at) {
        int v = 0;
        for (int i = at; i < at + 4; i++) {
            v = v << 8 | (i < text.length ? text[i] & 255 : ' ');
        }
        return v;
    }

    static byte[] bytes(String text) {
        return text.getBytes(StandardCharsets.ISO_8859_1);
    }

    /** The TAPE, empty so far, is this text. */
    static void feed(LawHoles x, String text) {
        byte[] b = bytes(text);
        for (int i = 0; i < b.length; i += 20) {
            x.feed(four(b, i), four(b, i + 4), four(b, i + 8), four(b, i + 12), four(b, i + 16));
        }
        x.end(b.length);
    }

    static int statute(LawHoles x, int l, String text) {
        feed(x, text);
        return x.statute(l);
    }

    static int never(LawHoles x, String text) {
        feed(x, text);
        return x.never();
    }

    static int cure(LawHoles x, int act, String text) {
        feed(x, text);
        return x.cure(act);
    }

    /** A new object with this STATUTE 0 and these NEVERS. */
    static LawHoles law(String statute, String... nevers) {
        LawHoles x = new LawHoles();
        statute(x, 0, statute);
        for (String never : nevers) {
            never(x, never);
        }
        return x;
    }

    /** A FAULT of a text as a STATUTE: its kind, its place. */
    void faultOfStatute(String text, int kind, int place) {
        LawHoles x = new LawHoles();
        due("statute of " + text, statute(x, 0, text), LawHoles.NONE);
        due("fault(0) of " + text, x.fault(0), kind);
        due("fault(1) of " + text, x.fault(1), place);
    }

    /** A FAULT of a text as a NEVER: its kind, its place. */
    void faultOfNever(String text, int kind, int place) {
        LawHoles x = new LawHoles();
        due("never of " + text, never(x, text), LawHoles.NONE);
        due("fault(0) of " + text, x.fault(0), kind);
        due("fault(1) of " + text, x.fault(1), place);
    }
}
