/** What the document says of THE PAST, promises 25 and 26, and of how long an object is used. */
final class PastEdges {
    private static final int NONE = LawHoles.NONE;
    private static final int LEAST = Integer.MIN_VALUE;
    private static final int MOST = Integer.MAX_VALUE;
    private static final int[][] RENAMINGS = {{0, 1, 2}, {0, 2, 1}, {1, 0, 2}, {1, 2, 0}, {2, 0, 1}, {2, 1, 0}};

    private final Sentences doc;

    PastEdges(Sentences doc) {
        this.doc = doc;
    }

    void run() {
        past();
        wentThrough();
        earliest();
        firstRenaming();
        throughCalls();
        throughRefused();
        calls();
    }

    private static LawHoles with(int[] row, int... past) {
        LawHoles x = new LawHoles();
        for (int code : row) {
            x.put(0, code);
        }
        for (int code : past) {
            x.past(code);
        }
        return x;
    }

    private static int[] row(int... codes) {
        return codes;
    }

    private void past() {
        doc.terms("THE PAST is a row of CODES (200 at most).");
        LawHoles x = with(row(767, 0));
        for (int i = 1; i <= 200; i++) {
            doc.due("the " + i + "th", x.past(i == 199 ? 767 : i == 200 ? 0 : 64), i);
        }
        doc.due("a 201st", x.past(0), NONE);
        doc.due("the last counts", x.through(0, 0), 199);
        x.clear(0);
        x.put(0, 64);
        doc.due("the first counts", x.through(0, 0), 0);
        doc.promise(25, "A CODE 0 .. 767 comes behind THE PAST: how many it has;");
        x = with(row(0, 767));
        doc.due("the least", x.past(0), 1);
        doc.due("the most", x.past(767), 2);
        doc.due("behind it", x.through(0, 0), 1);
        doc.promise(25, "NONE if it can't be, or there are 200.");
        Twins.stayAlike(doc, y -> {
            for (int code : new int[] {LEAST, -1, 768, MOST}) {
                doc.due("CODE " + code, y.past(code), NONE);
            }
        });
        for (int i = 3; i <= 200; i++) {
            x.past(1);
        }
        doc.due("there are 200", x.past(5), NONE);
        doc.due("there are 200", x.past(5), NONE);
        x.clear(0);
        x.put(0, 5 + 64);
        doc.due("none came", x.through(0, 0), NONE);
    }

    private static int renamed(int code, int[] persons, int[] things) {
        int a = code / 16 % 4;
        int b = code / 4 % 4;
        int t = code % 4;
        return code / 64 * 64 + 16 * (a == 3 ? 3 : persons[a]) + 4 * (b == 3 ? 3 : persons[b]) + (t == 3 ? 3 : things[t]);
    }

    private void wentThrough() {
        doc.terms("It WENT THROUGH a row by a renaming of PERSONS and of THINGS, if the row so renamed stands in it in order, whatever stands between:");
        int[] row = {4 + 2, 64 + 32 + 4 + 1, 128 + 12, 15};
        for (int[] p : RENAMINGS) {
            for (int[] t : RENAMINGS) {
                LawHoles x = with(row, 767);
                for (int i = 0; i < row.length; i++) {
                    doc.due("not yet", x.through(0, 0), NONE);
                    x.past(700);
                    x.past(renamed(row[i], p, t));
                }
                doc.due("whatever stands between", x.through(0, 0), 8);
                doc.due("the renaming", x.through(0, 1),
                    100000 * p[0] + 10000 * p[1] + 1000 * p[2] + 100 * t[0] + 10 * t[1] + t[2]);
            }
        }
        doc.due("in order", with(row(15, 79), 79, 15).through(0, 0), NONE);
        doc.due("in order, each by one", with(row(15, 15), 15).through(0, 0), NONE);
        doc.due("in order, each by one", with(row(15, 15), 15, 15).through(0, 0), 1);
        doc.due("another ACT", with(row(15), 79).through(0, 0), NONE);
        doc.due("with another one or not", with(row(15), 7).through(0, 0), NONE);
        doc.due("with a THING or not", with(row(15), 12).through(0, 0), NONE);
        doc.due("one is not two", with(row(15, 31), 15, 15).through(0, 0), NONE);
        doc.due("two are not one", with(row(15, 15), 15, 31).through(0, 0), NONE);
        doc.due("one THING is not two", with(row(12, 13), 12, 12).through(0, 0), NONE);
        doc.due("PERSONS are not THINGS", with(row(12, 16 + 12 + 1), 12, 32 + 12 + 2).through(0, 0), 1);
        doc.due("nobody stays nobody", with(row(63), 63).through(0, 1), 12012);
        doc.due("nobody becomes nobody else", with(row(48 + 15), 15, 31, 47).through(0, 0), NONE);
        doc.due("nobody else becomes nobody", with(row(15, 0), 63, 63).through(0, 0), NONE);
        doc.due("nobody else becomes nobody", with(row(15), 63).through(0, 0), NONE);
        doc.due("a row that can't be done", with(row(0), 42).through(0, 1), 201201);
    }

    private void earliest() {
        doc.terms("the earliest end by any renaming;");
        doc.due("a later renaming that ends first", with(row(15, 79), 15, 47, 64 + 47, 79).through(0, 0), 2);
        doc.due("a later renaming that ends first", with(row(15, 79), 15, 47, 64 + 47, 79).through(0, 1), 201012);
        doc.due("though it begins later", with(row(15, 31), 15, 47, 31).through(0, 0), 1);
        doc.due("the first of each is the earliest", with(row(15, 79), 15, 79, 15, 79).through(0, 0), 1);
        doc.due("not the last", with(row(15), 31, 15).through(0, 0), 0);
    }

    private void firstRenaming() {
        doc.terms("of several renamings the first by what PERSONS 0, 1, 2 become, then THINGS 0, 1, 2.");
        doc.due("of all", with(row(63), 63).through(0, 1), 12012);
        for (int p = 0; p < 3; p++) {
            for (int q = 0; q < 3; q++) {
                // PERSON p becomes q, the others in the first way that is left
                int want = -1;
                for (int i = 5; i >= 0; i--) {
                    want = RENAMINGS[i][p] == q ? i : want;
                }
                int[] so = RENAMINGS[want];
                int digits = 100 * so[0] + 10 * so[1] + so[2];
                doc.due("PERSON " + p + " becomes " + q, with(row(16 * p + 15), 16 * q + 15).through(0, 1), 1000 * digits + 12);
                doc.due("b " + p + " becomes " + q, with(row(48 + 4 * p + 3), 48 + 4 * q + 3).through(0, 1), 1000 * digits + 12);
                doc.due("THING " + p + " becomes " + q, with(row(60 + p), 60 + q).through(0, 1), 12000 + digits);
            }
        }
        // PERSONS go ahead of THINGS, where each of two renamings ends at one place
        LawHoles x = with(row(12, 64 + 63), 12 + 1, 16 + 12, 64 + 63);
        doc.due("both end at 2", x.through(0, 0), 2);
        doc.due("by PERSONS first", x.through(0, 1), 12102);
    }

    private void throughCalls() {
        doc.promise(26, "Whether THE PAST WENT THROUGH a ROW (not empty): what 0 the place (from 0) in THE PAST at which it ends first,"
            + " 1 the renaming: 6 digits (PERSONS, then THINGS 0, 1, 2 become).");
        LawHoles x = new LawHoles();
        for (int row = 0; row < 6; row++) {
            x.put(row, 64 * row + 15);
            x.past(64 * row + 47);
        }
        for (int row = 0; row < 6; row++) {
            doc.due("from 0", x.through(row, 0), row);
            doc.due("six digits", x.through(row, 1), 201012);
        }
        x = with(row(0, 16 + 8 + 1, 32 + 3), 32 + 8 + 2, 16 + 1, 15);
        doc.due("not through", x.through(0, 0), NONE);
        x = with(row(4, 16 + 8 + 1), 32 + 4 + 2, 16 + 1);
        doc.due("the end", x.through(0, 0), 1);
        doc.due("210 and 210", x.through(0, 1), 210210);
        doc.due("an empty ROW", x.through(1, 0), NONE);
        doc.due("an empty ROW", x.through(1, 1), NONE);
        for (int i = 2; i < 12; i++) {
            x.put(0, 15);
            x.past(47);
        }
        doc.due("a full ROW", x.through(0, 0), 11);
    }

    private void throughRefused() {
        doc.promise(26, "NONE if it did not, one can't be, or another what.");
        LawHoles x = with(row(15), 15);
        x.put(1, 79);
        for (int what = 0; what < 2; what++) {
            doc.due("it did not", x.through(1, what), NONE);
            for (int row : new int[] {LEAST, -1, 6, MOST}) {
                doc.due("ROW " + row, x.through(row, what), NONE);
            }
        }
        for (int what : new int[] {LEAST, -1, 2, 20, MOST}) {
            doc.due("what " + what, x.through(0, what), NONE);
        }
        doc.due("what can be", x.through(0, 0), 0);
        x = with(row(15));
        doc.due("no PAST", x.through(0, 0), NONE);
        x = with(row(0));
        doc.due("no PAST, not even CODE 0", x.through(0, 0), NONE);
        x.past(64);
        doc.due("no CODE 0 behind it", x.through(0, 0), NONE);
    }

    private void calls() {
        doc.whatItIs("An object is used for at most 512 calls after it has been made;");
        LawHoles x = new LawHoles();
        // 8 calls tell the law
        Check.statute(x, 0, "act ab make coin a+1;act cd make debt a b+1;");
        Check.never(x, "coin a>3");
        int done = 8;
        for (; done < 511; done++) {
            switch (done % 4) {
                case 0 -> doc.due("hole", x.hole(0, 1, 4, 7, 0), 4);
                case 1 -> doc.due("met", x.met(1, 3, false), 220);
                case 2 -> doc.due("feed", x.feed(0, 0, 0, 0, 0) > 0, done / 4 <= 36);
                default -> doc.due("coin", x.coin(2, 0), true);
            }
        }
        doc.due("the 512th", x.hole(0, 1, 4, 7, 20), 221);
    }
}
