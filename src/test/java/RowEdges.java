/** What the document says of ROWS: promises 14 to 18. */
final class RowEdges {
    private static final int NONE = LawHoles.NONE;
    private static final int LEAST = Integer.MIN_VALUE;
    private static final int MOST = Integer.MAX_VALUE;

    private final Sentences doc;

    RowEdges(Sentences doc) {
        this.doc = doc;
    }

    void run() {
        rows();
        putting();
        clearing();
        honest();
        asFarAsLawful();
        lawfulWhats();
        lawfulRefused();
        after();
    }

    private static LawHoles law(String statute) {
        LawHoles x = new LawHoles();
        Check.statute(x, 0, statute);
        return x;
    }

    private void rows() {
        doc.terms("ROWS 0 .. 5 are rows of CODES (12 at most; empty at first).");
        LawHoles x = law("act ab make day+1;");
        for (int row = 0; row < 6; row++) {
            doc.due("empty at first", x.lawful(row, 3, 0, 0), 0);
            doc.due("nothing is amiss", x.lawful(row, 3, 0, 1), NONE);
        }
        for (int row = 0; row < 6; row++) {
            for (int i = 1; i <= 12; i++) {
                doc.due("put " + i, x.put(row, 15), i);
            }
            doc.due("a 13th", x.put(row, 15), NONE);
            doc.due("12 it has", x.lawful(row, 3, 0, 0), 12);
            doc.due("12 it has", x.after(row, 50), 12);
            doc.due("the next is empty", x.lawful(row + 1, 3, 0, 0), row < 5 ? 0 : NONE);
        }
    }

    private void putting() {
        doc.promise(14, "A CODE 0 .. 767 comes behind a ROW: how many it has;");
        LawHoles x = law("act ab make day+1;");
        doc.due("the least", x.put(5, 0), 1);
        doc.due("the most", x.put(5, 767), 2);
        doc.due("of another ROW", x.put(0, 15), 1);
        doc.due("behind it", x.put(0, 0), 2);
        doc.due("in their order", x.lawful(0, 3, 0, 0), 1);
        doc.due("in their order", x.lawful(5, 3, 0, 0), 0);
        doc.promise(14, "NONE if one can't be, or it has 12.");
        Twins.stayAlike(doc, y -> {
            for (int row : new int[] {LEAST, -1, 6, MOST}) {
                doc.due("ROW " + row, y.put(row, 15), NONE);
            }
            for (int code : new int[] {LEAST, -1, 768, MOST}) {
                doc.due("CODE " + code, y.put(0, code), NONE);
            }
        });
        for (int i = 3; i <= 12; i++) {
            doc.due("put " + i, x.put(0, 0), i);
        }
        doc.due("it has 12", x.put(0, 0), NONE);
        doc.due("it has 12 still", x.put(0, 15), NONE);
        doc.due("they stay", x.lawful(0, 3, 0, 0), 1);
    }

    private void clearing() {
        doc.promise(15, "A ROW is empty, and not HONEST: true;");
        LawHoles x = law("act ab make day+1;");
        for (int row = 0; row < 6; row++) {
            x.put(row, 15);
            x.honest(row, true);
            doc.due("clear", x.clear(row), true);
            doc.due("empty", x.lawful(row, 3, 0, 0), 0);
            doc.due("not HONEST", x.honest(row, false), false);
            doc.due("the first again", x.put(row, 15), 1);
            doc.due("what is not HONEST", x.clear(row), true);
            doc.due("what is empty", x.clear(row), true);
            x.put(row, 15);
            x.honest(row, true);
        }
        doc.due("one", x.clear(3), true);
        doc.due("no other one", x.put(2, 15) + x.put(4, 15), 4);
        doc.due("no other one", x.honest(2, true) || x.honest(4, true), false);
        for (int i = 0; i < 12; i++) {
            x.put(3, 15);
        }
        doc.due("a full one", x.clear(3), true);
        doc.due("the first again", x.put(3, 15), 1);
        doc.promise(15, "false if there is none such.");
        Twins.stayAlike(doc, y -> {
            for (int row : new int[] {LEAST, -1, 6, MOST}) {
                doc.due("ROW " + row, y.clear(row), false);
            }
        });
    }

    private void honest() {
        doc.terms("ROWS may be HONEST.");
        LawHoles x = new LawHoles();
        Check.never(x, "1=2");
        for (int row = 0; row < 6; row++) {
            x.put(row, 0);
            doc.due("none is at first", x.stop(0, 0, 0), 0);
            doc.due("may be", x.honest(row, true), true);
            doc.due("is not LAWFUL", x.stop(0, 0, 0), NONE);
            doc.due("may be not", x.honest(row, false), true);
        }
        doc.promise(16, "A ROW is HONEST or not from now on: true;");
        doc.due("HONEST", x.honest(5, true), true);
        doc.due("from now on", x.stop(0, 0, 0), NONE);
        doc.due("the ROW stays", x.put(5, 0), 2);
        doc.due("HONEST still", x.honest(5, true), false);
        doc.due("not", x.honest(5, false), true);
        doc.due("from now on", x.stop(0, 0, 0), 0);
        doc.due("the ROW stays", x.put(5, 0), 3);
        doc.promise(16, "false if there is none such, or it is so.");
        Twins.stayAlike(doc, y -> {
            for (int row : new int[] {LEAST, -1, 6, MOST}) {
                doc.due("ROW " + row, y.honest(row, true), false);
                doc.due("ROW " + row, y.honest(row, false), false);
            }
            doc.due("it is HONEST", y.honest(2, true), false);
            doc.due("it is not", y.honest(1, false), false);
            doc.due("an empty one is not", y.honest(0, false), false);
        });
    }

    private void asFarAsLawful() {
        doc.terms("A ROW is LAWFUL from THE BEGINNING as far as each CODE is one (of ACTS that there are, of LAWS told)"
            + " and LAWFUL one behind the other.");
        LawHoles x = law("act ab need day<2 make day+1;");
        Check.statute(x, 1, "act cd make day+0-1;");
        int[] codes = {15, 384 + 31, 15, 47, 384 + 15, 31, 15, 15};
        for (int code : codes) {
            x.put(0, code);
        }
        doc.due("the 7th is not LAWFUL", x.lawful(0, 3, 0, 0), 6);
        doc.due("by its need", x.lawful(0, 3, 0, 1), 0);
        doc.due("of STATUTE 0", x.lawful(0, 1, 0, 0), 1);
        doc.due("the 2nd is none", x.lawful(0, 1, 0, 1), 30);
        doc.due("of STATUTE 1", x.lawful(0, 2, 0, 0), 0);
        doc.due("the 1st is none", x.lawful(0, 2, 0, 1), 30);
        x.day(1);
        doc.due("from another BEGINNING", x.lawful(0, 3, 0, 0), 3);
        x.day(2);
        doc.due("from another BEGINNING", x.lawful(0, 3, 0, 0), 0);
        x.day(0);
        Check.statute(x, 1, "act cd make day+0-1;act ef;");
        doc.due("by another STATUTE", x.lawful(0, 3, 0, 0), 6);
        x.put(1, 448 + 15);
        doc.due("of an ACT that there is", x.lawful(1, 3, 0, 1), NONE);
        Check.statute(x, 1, "act cd;");
        doc.due("of an ACT that there is not any more", x.lawful(1, 3, 0, 1), 30);
        doc.due("by another STATUTE", x.lawful(0, 3, 0, 0), 3);
    }

    private void lawfulWhats() {
        doc.promise(17, "A ROW by LAWS with a set of CURES (0 .. 31; what counts are those that there are):");
        LawHoles x = law("act ab make day+1;");
        Check.statute(x, 1, "act ab make day+2;");
        x.put(0, 15);
        x.put(0, 399);
        x.put(0, 15);
        for (int laws = 1; laws <= 3; laws++) {
            doc.due("by " + laws, x.lawful(0, laws, 0, 0), laws == 1 ? 1 : laws == 2 ? 0 : 3);
        }
        for (int set = 0; set <= 31; set++) {
            doc.due("no CURES are there, " + set, x.lawful(0, 3, set, 0), 3);
        }
        for (int i = 0; i < 5; i++) {
            doc.due("a CURE", Check.cure(x, 0, i == 4 ? "day<0" : "day<3"), i);
            for (int set = 0; set <= 31; set++) {
                int there = set & (2 << i) - 1;
                int want = there == 0 ? 3 : there >= 16 ? 0 : 2;
                doc.due("of " + (i + 1) + " CURES " + set, x.lawful(0, 3, set, 0), want);
            }
        }
        doc.promise(17, "what 0 how many CODES are LAWFUL, 1 why the next one is not:");
        doc.due("two", x.lawful(0, 3, 1, 0), 2);
        doc.due("why", x.lawful(0, 3, 1, 1), 10);
        doc.promise(17, "0 .. 3 the first need that is not so,");
        x = law("act ab need coin a=0 need coin b=0 need debt a b=0 need day=0 make day+1 make coin a-1;");
        Check.cure(x, 0, "coin a+coin b+debt a b+day=0");
        x.put(0, 7);
        x.day(15);
        doc.due("need 3, ahead of a CURE and of the bounds", x.lawful(0, 3, 1, 1), 3);
        x.debt(0, 1, 1);
        doc.due("need 2", x.lawful(0, 3, 1, 1), 2);
        x.coin(1, 1);
        doc.due("need 1", x.lawful(0, 3, 1, 1), 1);
        x.coin(0, 1);
        doc.due("need 0", x.lawful(0, 3, 1, 1), 0);
        firstCure();
    }

    private void firstCure() {
        doc.promise(17, "10 + i the first CURE,");
        LawHoles x = law("act ab make coin a-1;act cd make coin a-1;");
        int[] acts = {1, 0, 0, 1, 0};
        for (int i = 0; i < 5; i++) {
            Check.cure(x, acts[i], i == 2 ? "day=0" : "day=1");
        }
        x.put(0, 15);
        x.put(1, 79);
        for (int set = 0; set <= 31; set++) {
            int want = (set & 2) != 0 ? 11 : (set & 16) != 0 ? 14 : 20;
            doc.due("of ACT 0 with " + set, x.lawful(0, 3, set, 1), want);
            want = (set & 1) != 0 ? 10 : (set & 8) != 0 ? 13 : 20;
            doc.due("of ACT 1 with " + set, x.lawful(1, 3, set, 1), want);
        }
        doc.promise(17, "20 the bounds, 30 it is none (NONE: all are).");
        doc.due("the bounds", x.lawful(0, 3, 4, 1), 20);
        x.put(2, 128 + 15);
        doc.due("it is none", x.lawful(2, 3, 31, 1), 30);
        x.coin(0, 1);
        doc.due("all are", x.lawful(0, 3, 4, 1), NONE);
        doc.due("all of one", x.lawful(0, 3, 4, 0), 1);
        doc.due("it is none", x.lawful(2, 3, 31, 1), 30);
        doc.due("all of none", x.lawful(3, 3, 31, 1), NONE);
        x.put(0, 15);
        doc.due("the next one", x.lawful(0, 3, 4, 1), 20);
    }

    private void lawfulRefused() {
        doc.promise(17, "NONE if one can't be, or another what.");
        Twins.stayAlike(doc, x -> {
            for (int what = 0; what < 2; what++) {
                for (int row : new int[] {LEAST, -1, 6, MOST}) {
                    doc.due("ROW " + row, x.lawful(row, 3, 0, what), NONE);
                }
                for (int laws : new int[] {LEAST, -1, 0, 4, MOST}) {
                    doc.due("LAWS " + laws, x.lawful(2, laws, 0, what), NONE);
                }
                for (int cures : new int[] {LEAST, -1, 32, 63, MOST}) {
                    doc.due("CURES " + cures, x.lawful(2, 3, cures, what), NONE);
                }
            }
            for (int what : new int[] {LEAST, -1, 2, 20, MOST}) {
                doc.due("what " + what, x.lawful(2, 3, 0, what), NONE);
                doc.due("what " + what, x.lawful(3, 3, 0, what), NONE);
            }
            doc.due("what can be", x.lawful(3, 3, 0, 1), 30);
            doc.due("what can be", x.lawful(2, 3, 31, 0), 0);
        });
    }

    private void after() {
        doc.promise(18, "The STATE behind the LAWFUL part of a ROW by both STATUTES without CURES:");
        LawHoles x = law("act ab make day+1;");
        Check.statute(x, 1, "act ab make coin b+2;");
        Check.cure(x, 0, "day>0");
        Check.cure(x, 6, "0=1");
        doc.due("of an empty one", x.after(0, 50), 0);
        x.put(0, 15);
        x.put(0, 384 + 7);
        x.put(0, 384 + 11);
        x.put(0, 0);
        x.put(0, 15);
        doc.due("DAY", x.after(0, 50), 1);
        doc.due("COIN of 1", x.after(0, 1), 2);
        doc.due("COIN of 2", x.after(0, 2), 2);
        x.coin(2, 14);
        doc.due("LAWFUL no more", x.after(0, 2), 14);
        doc.promise(18, "what 0 .. 2 COIN; 10 + 3 p + q DEBT of p to q, 20 + 3 p + q 1 if WED, else 0,"
            + " 30 + 3 p + q 1 if p is a CHILD of q, else 0; 40 + t the OWNER; 50 the DAY.");
        x = law("act ab make coin a+3 make debt a b+5 make own b make wed a b make adopt a b make day+9;");
        for (int p = 0; p < 3; p++) {
            for (int q = 0; q < 3; q++) {
                int t = (p + q) % 3;
                x.clear(0);
                x.put(0, 16 * p + 4 * q + t);
                for (int i = 0; i < 3 && p != q; i++) {
                    doc.due("COIN", x.after(0, i), i == p ? 3 : 0);
                    doc.due("OWNER", x.after(0, 40 + i), i == t ? q : 3);
                }
                for (int i = 1; i < 8 && p != q; i++) {
                    boolean isSo = i == 3 * p + q;
                    doc.due("DEBT " + i, x.after(0, 10 + i), i == 4 ? NONE : isSo ? 5 : 0);
                    doc.due("WED " + i, x.after(0, 20 + i), i == 4 ? NONE : isSo || i == 3 * q + p ? 1 : 0);
                    doc.due("CHILD " + i, x.after(0, 30 + i), i == 4 ? NONE : isSo ? 1 : 0);
                }
                doc.due("DAY", x.after(0, 50), p == q ? 0 : 9);
            }
        }
        doc.promise(18, "NONE if there is none such, or another what (p as q).");
        for (int row : new int[] {LEAST, -1, 6, MOST}) {
            doc.due("ROW " + row, x.after(row, 50), NONE);
        }
        for (int what : new int[] {LEAST, -1, 3, 4, 9, 10, 14, 18, 19, 20, 24, 28, 29, 30, 34, 38, 39, 43, 49, 51, 60, MOST}) {
            doc.due("what " + what, x.after(0, what), NONE);
        }
    }
}
