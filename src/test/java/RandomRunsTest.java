import java.util.Random;

/** Random runs of calls, with seeds that stay, on the class and on the plain telling of the document. */
public final class RandomRunsTest {
    private static final String[] UNITS = {
        "coin a", "coin b", "debt a b", "debt b a", "wed a b", "wed b a", "child a b", "child b a",
        "owns a", "owns b", "things a", "things b", "day", "0", "1", "2", "3", "7", "15", "999"};
    private static final String[] STRAY = {
        "a", "b", "act", "need", "make", "none", "(", ")", "not", "and", "or", ";", "+", "-", "*", "<", "=", ">",
        "x", "zz", "12", "1234", "abcdefgh", "abcdefghi", "coin", "own", "day", "A", "\t", "\n", "\u00e9", "debt a a"};

    /** ACTS, NEVERS and CURES that have to do with one another, so that HOLES are deep and CURES may STOP them. */
    private static final String[] SENSIBLE_ACTS = {
        "need day<3 make coin a+2 make day+1;", "need coin a>1 make debt a b+2;", "need coin a>2 make coin a-3 make coin b+3;",
        "need owns a=1 and coin b>1 make own b make coin a+2 make coin b-2;", "need wed a b=0 and child a b=0 make wed a b;",
        "need wed a b=1 make part a b;", "need things a<2 make own a make day+1;", "need debt b a>0 make debt b a-1;",
        "need wed a b=1 need things b>0 make adopt a b;", "need owns a=1 make own none make coin a+1;", "make day+1;"};
    private static final String[] SENSIBLE_NEVERS = {
        "coin a>3", "coin a>2 and coin b>1", "debt a b>1", "debt a b>1 and debt b a>1", "wed a b=1 and child a b=1",
        "owns a=1 and child b a=1", "things a>1", "coin a>4 and debt a b=0", "coin a+coin b>6 and wed a b=1", "day>2 and coin a>1"};
    private static final String[] SENSIBLE_CURES = {
        "coin a>3", "coin b=0", "day>1", "day<1", "things a=0", "wed a b=0", "child a b=0 and child b a=0", "debt a b=0",
        "not (coin a<1 or day=1)", "coin a<2", "0=1", "things b<1"};

    private final Random random;
    private final LawHoles x = new LawHoles();
    private final PlainLaw y = new PlainLaw();
    private final Check check;
    private final StringBuilder log = new StringBuilder();
    private final boolean sensible;
    private int calls = 0;

    private RandomRunsTest(long seed, Check check, boolean sensible) {
        random = new Random(seed);
        this.check = check;
        this.sensible = sensible;
    }

    public static void main(String[] args) {
        Check check = new Check();
        int runs = args.length > 0 ? Integer.parseInt(args[0]) : 400;
        int from = args.length > 1 ? Integer.parseInt(args[1]) : 1;
        for (int seed = from; seed < from + runs && !check.isWrong(); seed++) {
            RandomRunsTest run = new RandomRunsTest(seed, check, seed % 2 == 0);
            run.play(seed % 3);
            if (check.isWrong()) {
                System.out.println("seed " + seed + ":\n" + run.log);
            }
        }
        check.close();
    }

    private int any(int n) {
        return random.nextInt(n);
    }

    private String one(String... of) {
        return of[any(of.length)];
    }

    private String unit() {
        return one(UNITS);
    }

    private String sum() {
        StringBuilder s = new StringBuilder(unit());
        for (int i = any(5); i > 2; i--) {
            s.append(one("+", "-", "*", " + ", " - ")).append(unit());
        }
        return s.toString();
    }

    private String claim(int deep) {
        if (deep < 10 && any(4) == 0) {
            return any(2) == 0 ? "not " + claim(deep + 1) : "(" + condition(deep + 1) + ")";
        }
        return sum() + one("<", "=", ">") + sum();
    }

    private String condition(int deep) {
        StringBuilder s = new StringBuilder(claim(deep));
        for (int i = any(6); i > 3; i--) {
            s.append(one(" and ", " or ", "\nor ")).append(claim(deep));
        }
        return s.toString();
    }

    private String pair() {
        return one("a b", "b a");
    }

    private String change() {
        String small = any(3) == 0 ? sum() : one("1", "2", "3", "1", "1");
        switch (any(9)) {
            case 0:
            case 1:
                return "coin " + one("a", "b") + one("+", "-") + small;
            case 2:
                return "debt " + pair() + one("+", "-") + small;
            case 3:
                return "own " + one("a", "b", "none");
            case 4:
                return "wed " + pair();
            case 5:
                return "part " + pair();
            case 6:
                return "adopt " + pair();
            default:
                return "day+" + small;
        }
    }

    private String statuteText() {
        StringBuilder s = new StringBuilder();
        int acts = any(20) == 0 ? 7 : any(4);
        for (int i = 0; i < acts; i++) {
            s.append("act ").append(one("pay", "give", "take", "swear", "found", "split", "earn", "ab", "abcdefgh")).append(any(3) == 0 ? "x " : " ");
            int parts = any(12) == 0 ? 9 : 1 + any(4);
            for (int j = 0; j < parts; j++) {
                s.append(any(3) == 0 ? "need " + condition(0) : "make " + change()).append(' ');
            }
            s.append(one(";", "; ", ";\n"));
        }
        return s.toString();
    }

    private String sensibleStatute() {
        StringBuilder s = new StringBuilder();
        int acts = 1 + any(3);
        for (int i = 0; i < acts; i++) {
            s.append("act ").append(one("pay", "give", "take")).append((char) ('a' + i)).append(' ').append(one(SENSIBLE_ACTS));
        }
        return s.toString();
    }

    /** Now and then a text is spoiled: a piece goes, or a stray one comes. */
    private String spoiled(String text) {
        if (any(4) != 0 || text.isEmpty()) {
            return text;
        }
        int at = any(text.length());
        if (any(3) == 0) {
            return text.substring(0, at);
        }
        int to = Math.min(text.length(), at + any(4));
        return text.substring(0, at) + " " + one(STRAY) + " " + text.substring(to);
    }

    private void note(String call, long got, long want) {
        calls++;
        log.append(call).append(" -> ").append(got).append(got == want ? "" : " DUE " + want).append('\n');
        check.due(call, got, want);
    }

    private void note(String call, boolean got, boolean want) {
        note(call, got ? 1 : 0, want ? 1 : 0);
    }

    private void feed(String text) {
        byte[] b = Check.bytes(text);
        for (int i = 0; i < b.length; i += 20) {
            int[] v = new int[5];
            for (int j = 0; j < 5; j++) {
                v[j] = Check.four(b, i + 4 * j);
            }
            note("feed", x.feed(v[0], v[1], v[2], v[3], v[4]), y.feed(v));
        }
        log.append(text).append('\n');
        int n = any(30) == 0 ? any(800) - 20 : b.length;
        note("end(" + n + ")", x.end(n), y.end(n));
    }

    private void faults() {
        for (int i = -1; i < 3; i++) {
            note("fault(" + i + ")", x.fault(i), y.fault(i));
        }
    }

    private int wild(int least, int most) {
        if (any(200) == 0) {
            return any(2) == 0 ? Integer.MIN_VALUE : Integer.MAX_VALUE;
        }
        return any(25) == 0 ? any(most + 8) - 4 : least + any(most - least + 1);
    }

    private void newStatute() {
        feed(sensible ? sensibleStatute() : spoiled(statuteText()));
        int l = wild(0, 1);
        note("statute(" + l + ")", x.statute(l), y.statute(l));
        faults();
        for (int i = 0; i < 6; i++) {
            int a = wild(0, 11);
            int what = wild(0, 3);
            note("act(" + a + "," + what + ")", x.act(a, what), y.act(a, what));
        }
    }

    private void newCondition(boolean isCure) {
        feed(sensible ? one(isCure ? SENSIBLE_CURES : SENSIBLE_NEVERS) : spoiled(condition(0)));
        if (isCure) {
            int act = any(2) == 0 ? wild(0, 11) : 6 * any(2) + any(3);
            note("cure(" + act + ")", x.cure(act), y.cure(act));
        } else {
            note("never()", x.never(), y.never());
        }
        faults();
    }

    private void change(int kind) {
        int p = wild(0, 2);
        int q = wild(0, 2);
        int v = wild(0, 9);
        boolean is = any(2) == 0;
        switch (kind) {
            case 0:
                note("coin(" + p + "," + v + ")", x.coin(p, v), y.coin(p, v));
                break;
            case 1:
                note("debt(" + p + "," + q + "," + v + ")", x.debt(p, q, v), y.debt(p, q, v));
                break;
            case 2:
                int what = wild(0, 1);
                note("kin(" + p + "," + q + "," + what + "," + is + ")", x.kin(p, q, what, is), y.kin(p, q, what, is));
                break;
            case 3:
                int who = wild(0, 3);
                note("owner(" + p + "," + who + ")", x.owner(p, who), y.owner(p, who));
                break;
            default:
                note("day(" + v + ")", x.day(v), y.day(v));
                break;
        }
    }

    /** A CODE that may be one: of an ACT that there is, and fitting it. */
    private int code() {
        if (any(8) == 0) {
            return wild(0, 767);
        }
        int act = any(12);
        for (int i = 0; i < 20 && y.deed(act) == null; i++) {
            act = any(12);
        }
        PlainLaw.Deed d = y.deed(act);
        int a = any(3);
        int b = d == null || !d.b ? 3 : (a + 1 + any(2)) % 3;
        int t = d == null || !d.t ? 3 : any(3);
        return 64 * act + 16 * a + 4 * b + t;
    }

    private void rows() {
        int row = wild(0, 5);
        int c = code();
        note("put(" + row + "," + c + ")", x.put(row, c), y.put(row, c));
        int laws = any(3) == 0 ? wild(1, 3) : 3;
        int cures = wild(0, 31);
        for (int what = 0; what < 2; what++) {
            note("lawful(" + row + "," + laws + "," + cures + "," + what + ")",
                x.lawful(row, laws, cures, what), y.lawful(row, laws, cures, what));
        }
        for (int i = 0; i < 4; i++) {
            int what = any(60) - 4;
            note("after(" + row + "," + what + ")", x.after(row, what), y.after(row, what));
        }
        if (any(12) == 0) {
            note("clear(" + row + ")", x.clear(row), y.clear(row));
        }
        if (any(4) == 0) {
            boolean is = any(sensible ? 12 : 3) == 0;
            note("honest(" + row + "," + is + ")", x.honest(row, is), y.honest(row, is));
        }
    }

    private void memory() {
        int c = any(3) == 0 ? 64 * any(2) + any(64) : code();
        note("past(" + c + ")", x.past(c), y.past(c));
        int row = wild(0, 5);
        for (int what = 0; what < 3; what++) {
            note("through(" + row + "," + what + ")", x.through(row, what), y.through(row, what));
        }
    }

    private void searches() {
        int k = wild(0, 2);
        int laws = any(3) == 0 ? wild(1, 3) : 3;
        int n = any(5) == 0 ? wild(0, 6) : any(4);
        int persons = any(2) == 0 ? 7 : wild(1, 7);
        switch (any(6)) {
            case 0:
                for (int what : new int[] {0, 1, 2, any(24) - 1, wild(0, 6), 20}) {
                    note("hole(" + k + "," + laws + "," + n + "," + persons + "," + what + ")",
                        x.hole(k, laws, n, persons, what), y.hole(k, laws, n, persons, what));
                }
                break;
            case 1:
                note("friends(" + k + "," + laws + "," + n + ")", x.friends(k, laws, n), y.friends(k, laws, n));
                break;
            case 2:
                note("only(" + k + "," + n + ")", x.only(k, n), y.only(k, n));
                break;
            case 3:
                boolean alike = any(2) == 0;
                note("met(" + laws + "," + n + "," + alike + ")", x.met(laws, n, alike), y.met(laws, n, alike));
                break;
            case 4:
                int p = wild(0, 2);
                for (int what : new int[] {0, 1, 2, 3, any(12) - 1, wild(0, 7)}) {
                    note("gain(" + p + "," + laws + "," + n + "," + what + ")",
                        x.gain(p, laws, n, what), y.gain(p, laws, n, what));
                }
                break;
            default:
                if (sensible && any(2) == 0) {
                    honestHole(k, n);
                }
                int what = wild(0, 1);
                note("stop(" + k + "," + n + "," + what + ")", x.stop(k, n, what), y.stop(k, n, what));
                break;
        }
    }

    /** A part of a HOLE is an HONEST ROW: some CURES would hurt it. */
    private void honestHole(int k, int n) {
        int row = any(6);
        note("clear(" + row + ")", x.clear(row), y.clear(row));
        int codes = y.hole(k, 3, n, 7, 0);
        for (int i = 1; i < codes; i++) {
            int code = y.hole(k, 3, n, 7, i);
            note("put(" + row + "," + code + ")", x.put(row, code), y.put(row, code));
        }
        note("honest(" + row + ",true)", x.honest(row, true), y.honest(row, true));
    }

    private void play(int kind) {
        for (int i = 0; i < 4; i++) {
            change(i);
        }
        newStatute();
        newStatute();
        for (int i = 0; i < 3; i++) {
            newCondition(false);
        }
        for (int i = any(5); i > 0 && sensible; i--) {
            newCondition(true);
        }
        for (int i = 0; i < 400 && calls < 480 && !check.isWrong(); i++) {
            int choice = any(kind == 0 ? 8 : 14);
            if (choice == 0) {
                newStatute();
            } else if (choice == 1) {
                newCondition(any(2) == 0);
            } else if (choice == 2) {
                change(any(5));
            } else if (choice < 6) {
                rows();
            } else if (choice < 8) {
                memory();
            } else {
                searches();
            }
        }
    }
}
