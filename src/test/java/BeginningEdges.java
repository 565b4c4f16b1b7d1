/** What the document says of STATES and of THE BEGINNING: promises 1 to 6. */
final class BeginningEdges {
    private static final int NONE = LawHoles.NONE;
    /** Numbers on both sides of every bound of a STATE, and the outermost. */
    private static final int[] NUMBERS = {Integer.MIN_VALUE, -256, -16, -1, 0, 1, 2, 3, 4, 7, 8, 15, 16, 256, Integer.MAX_VALUE};

    private final Sentences doc;

    BeginningEdges(Sentences doc) {
        this.doc = doc;
    }

    void run() {
        constants();
        whoThereIs();
        coins();
        debts();
        children();
        wed();
        owners();
        days();
        atFirst();
        refused();
    }

    private void constants() {
        doc.terms("The constants: `NONE = -1`: None.");
        doc.due("NONE", LawHoles.NONE, -1);
        doc.terms("`SPENT = -2`: A SEARCH was SPENT.");
        doc.due("SPENT", LawHoles.SPENT, -2);
    }

    private void whoThereIs() {
        doc.terms("PERSONS 0, 1, 2; THINGS 0, 1, 2.");
        LawHoles x = new LawHoles();
        for (int who : NUMBERS) {
            boolean is = who >= 0 && who <= 2;
            doc.due("coin of PERSON " + who, x.coin(who, 1), is);
            doc.due("owner of THING " + who, x.owner(who, 1), is);
            doc.due("gain of PERSON " + who, x.gain(who, 3, 0, 0), is ? 1 : NONE - 99);
        }
    }

    private void coins() {
        doc.terms("A STATE: of each PERSON its COIN 0 .. 15;");
        for (int p = 0; p < 3; p++) {
            LawHoles x = new LawHoles();
            for (int v : NUMBERS) {
                doc.due("coin(" + p + ", " + v + ")", x.coin(p, v), v >= 0 && v <= 15);
            }
        }
        doc.promise(2, "COIN of a PERSON in THE BEGINNING: true;");
        LawHoles x = new LawHoles();
        for (int p = 0; p < 3; p++) {
            doc.due("coin", x.coin(p, 15 - p), true);
        }
        for (int p = 0; p < 3; p++) {
            doc.due("COIN " + p, x.after(0, p), 15 - p);
            doc.due("coin as it is", x.coin(p, 15 - p), true);
            doc.due("coin 0", x.coin(p, 0), true);
            doc.due("COIN 0", x.after(0, p), 0);
        }
    }

    private void debts() {
        doc.terms("of two unlike PERSONS p, q the DEBT 0 .. 7 of p to q,");
        for (int pair = 0; pair < 9; pair++) {
            LawHoles x = new LawHoles();
            for (int v : NUMBERS) {
                doc.due("debt " + pair + " " + v, x.debt(pair / 3, pair % 3, v), pair % 4 != 0 && v >= 0 && v <= 7);
            }
        }
        doc.promise(3, "DEBT of p to q in THE BEGINNING: true;");
        LawHoles x = new LawHoles();
        for (int pair = 1; pair < 8; pair++) {
            doc.due("debt " + pair, x.debt(pair / 3, pair % 3, pair), pair != 4);
        }
        for (int pair = 0; pair < 9; pair++) {
            doc.due("DEBT " + pair, x.after(0, 10 + pair), pair % 4 == 0 ? NONE : pair);
        }
        doc.due("debt 0", x.debt(2, 1, 0), true);
        doc.due("DEBT 0", x.after(0, 17), 0);
    }

    /** Which one of the flags from a place on is set: just those two pairs, both ways or one. */
    private void justThese(LawHoles x, int place, int pair, int other) {
        for (int i = 0; i < 9; i++) {
            int want = i == pair || i == other ? 1 : 0;
            doc.due("flag " + (place + i), x.after(0, place + i), i % 4 == 0 ? NONE : want);
        }
    }

    private void children() {
        doc.terms("whether p is a CHILD of q,");
        for (int pair = 0; pair < 9; pair++) {
            int p = pair / 3;
            int q = pair % 3;
            LawHoles x = new LawHoles();
            doc.due("child " + pair, x.kin(p, q, 1, true), p != q);
            justThese(x, 30, pair, pair);
            justThese(x, 20, NONE, NONE);
        }
        doc.promise(4, "p is a CHILD of q (1): true;");
        LawHoles x = new LawHoles();
        doc.due("child", x.kin(1, 0, 1, true), true);
        doc.due("child as it is", x.kin(1, 0, 1, true), true);
        doc.due("the other way too", x.kin(0, 1, 1, true), true);
        justThese(x, 30, 1, 3);
        doc.due("no child", x.kin(1, 0, 1, false), true);
        justThese(x, 30, 1, 1);
    }

    private void wed() {
        doc.terms("whether they are WED (both ways alike);");
        for (int pair = 0; pair < 9; pair++) {
            int p = pair / 3;
            int q = pair % 3;
            LawHoles x = new LawHoles();
            doc.due("wed " + pair, x.kin(p, q, 0, true), p != q);
            justThese(x, 20, pair, 3 * q + p);
            justThese(x, 30, NONE, NONE);
        }
        doc.promise(4, "Whether p and q are WED in THE BEGINNING (what 0),");
        LawHoles x = new LawHoles();
        doc.due("wed", x.kin(1, 0, 0, true), true);
        doc.due("wed as they are", x.kin(0, 1, 0, true), true);
        justThese(x, 20, 1, 3);
        doc.due("not wed, told the other way", x.kin(0, 1, 0, false), true);
        justThese(x, 20, NONE, NONE);
    }

    private void owners() {
        doc.terms("of each THING its OWNER, a PERSON or nobody (3);");
        for (int t = 0; t < 3; t++) {
            LawHoles x = new LawHoles();
            for (int p : NUMBERS) {
                boolean can = p >= 0 && p <= 3;
                doc.due("owner(" + t + ", " + p + ")", x.owner(t, p), can);
                doc.due("OWNER", x.after(0, 40 + t), can ? p : 3);
            }
        }
        doc.promise(5, "OWNER (3 nobody) of a THING in THE BEGINNING: true;");
        LawHoles x = new LawHoles();
        for (int t = 0; t < 3; t++) {
            doc.due("owner", x.owner(t, 2 - t), true);
        }
        for (int t = 0; t < 3; t++) {
            doc.due("OWNER " + t, x.after(0, 40 + t), 2 - t);
            doc.due("nobody", x.owner(t, 3), true);
            doc.due("OWNER nobody", x.after(0, 40 + t), 3);
        }
    }

    private void days() {
        doc.terms("the DAY 0 .. 15.");
        LawHoles x = new LawHoles();
        for (int v : NUMBERS) {
            doc.due("day(" + v + ")", x.day(v), v >= 0 && v <= 15);
        }
        doc.promise(6, "The DAY of THE BEGINNING: true;");
        doc.due("day", x.day(15), true);
        doc.due("DAY", x.after(0, 50), 15);
        doc.due("day as it is", x.day(15), true);
        doc.due("day 0", x.day(0), true);
        doc.due("DAY 0", x.after(0, 50), 0);
    }

    private void atFirst() {
        doc.terms("THE BEGINNING is a STATE (all 0, nobody WED, CHILD, OWNER at first).");
        LawHoles x = new LawHoles();
        for (int what = 0; what <= 50; what++) {
            boolean isThere = what < 3 || what >= 10 && what < 40 && what % 10 < 9 && what % 10 % 4 != 0 || what == 50;
            boolean isOwner = what >= 40 && what <= 42;
            doc.due("at first " + what, x.after(0, what), isThere ? 0 : isOwner ? 3 : NONE);
        }
        doc.promise(1, "Empty STATUTES;");
        for (int i = 0; i < 12; i++) {
            for (int what = 0; what < 4; what++) {
                doc.due("act(" + i + ", " + what + ")", x.act(i, what), NONE);
            }
        }
        doc.due("nothing can be done", x.met(3, 6, false), 1);
        doc.promise(1, "THE BEGINNING as told.");
        doc.due("all with nothing", Check.never(x, "not (coin a=0 and debt a b=0 and wed a b=0 and child a b=0 and things a=0 and day=0)"), 0);
        doc.due("for every a and b", x.hole(0, 3, 0, 7, 0), NONE);
    }

    /** What each of them answers false to, and that it changes nothing. */
    private void refused() {
        doc.promise(2, "false if one can't be.");
        Twins.stayAlike(doc, x -> {
            doc.due("PERSON -1", x.coin(-1, 1), false);
            doc.due("PERSON 3", x.coin(3, 1), false);
            doc.due("COIN -1", x.coin(0, -1), false);
            doc.due("COIN 16", x.coin(2, 16), false);
        });
        doc.promise(3, "false if one can't be.");
        Twins.stayAlike(doc, x -> {
            doc.due("of PERSON -1", x.debt(-1, 1, 1), false);
            doc.due("of PERSON 3", x.debt(3, 1, 1), false);
            doc.due("to PERSON -1", x.debt(1, -1, 1), false);
            doc.due("to PERSON 3", x.debt(1, 3, 1), false);
            doc.due("to oneself", x.debt(1, 1, 1), false);
            doc.due("DEBT -1", x.debt(1, 2, -1), false);
            doc.due("DEBT 8", x.debt(1, 2, 8), false);
        });
        doc.promise(4, "false if one can't be.");
        Twins.stayAlike(doc, x -> {
            for (int what = 0; what < 2; what++) {
                doc.due("PERSON -1", x.kin(-1, 1, what, true), false);
                doc.due("PERSON 3", x.kin(3, 1, what, true), false);
                doc.due("with PERSON -1", x.kin(1, -1, what, true), false);
                doc.due("with PERSON 3", x.kin(1, 3, what, true), false);
                doc.due("with oneself", x.kin(2, 2, what, true), false);
            }
            doc.due("what -1", x.kin(0, 2, -1, true), false);
            doc.due("what 2", x.kin(0, 2, 2, true), false);
        });
        doc.promise(5, "false if one can't be.");
        Twins.stayAlike(doc, x -> {
            doc.due("THING -1", x.owner(-1, 0), false);
            doc.due("THING 3", x.owner(3, 0), false);
            doc.due("PERSON -1", x.owner(1, -1), false);
            doc.due("PERSON 4", x.owner(1, 4), false);
        });
        doc.promise(6, "false if it can't be.");
        Twins.stayAlike(doc, x -> {
            doc.due("DAY -1", x.day(-1), false);
            doc.due("DAY 16", x.day(16), false);
        });
    }
}
