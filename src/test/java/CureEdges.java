/** What the document says of CURES and of what STOPS a NEVER: promises 11 and 24. */
final class CureEdges {
    private static final int NONE = LawHoles.NONE;
    private static final int LEAST = Integer.MIN_VALUE;
    private static final int MOST = Integer.MAX_VALUE;

    private final Sentences doc;

    CureEdges(Sentences doc) {
        this.doc = doc;
    }

    void run() {
        cures();
        cureRefused();
        asOfThere();
        stops();
        honestRows();
        fewest();
        stopCalls();
        stopRefused();
    }

    private void cures() {
        doc.promise(11, "The TAPE, empty then, is one more CURE, of an ACT by its number (0 .. 11, there or not): its number.");
        for (int act = 0; act < 12; act++) {
            LawHoles x = new LawHoles();
            doc.due("of ACT " + act + ", which is not there", Check.cure(x, act, "1=2"), 0);
            doc.due("empty then", x.end(1), false);
            doc.due("no ACT comes by it", x.act(act, 0), NONE);
            Check.statute(x, 0, "act aa;act ab;act ac;act ad;act ae;act af;");
            Check.statute(x, 1, "act aa;act ab;act ac;act ad;act ae;act af;");
            for (int i = 0; i < 12; i++) {
                x.clear(0);
                x.put(0, 64 * i + 15);
                doc.due("CURE of " + act + " for " + i, x.lawful(0, 3, 1, 1), i == act ? 10 : NONE);
            }
            doc.due("of ACT " + act + ", which is there", Check.cure(x, act, "1=1"), 1);
        }
        doc.terms("CURES 0 .. 4 as they come are a TEXT = B each,");
        LawHoles x = Check.law("act ab make day+1;");
        x.put(0, 15);
        for (int i = 0; i < 5; i++) {
            doc.due("a FAULT is no CURE", Check.cure(x, 0, "day"), NONE);
            doc.due("CURE " + i, Check.cure(x, 0, "day=" + (i + 1) + " or coin a=1 and not day=0"), i);
            for (int set = 0; set < 5; set++) {
                doc.due("CURE " + set + " is there", x.lawful(0, 3, 1 << set, 1), set <= i ? 10 + set : NONE);
            }
        }
        doc.due("no sixth", Check.cure(x, 0, "day=6"), NONE);
        for (int i = 0; i < 5; i++) {
            x.day(i + 1);
            for (int set = 0; set < 5; set++) {
                doc.due("CURE " + set + " at " + i, x.lawful(0, 3, 1 << set, 1), set == i ? NONE : 10 + set);
            }
        }
    }

    private void cureRefused() {
        doc.promise(11, "NONE: there are five, no such number (fault() tells 0), or a FAULT.");
        LawHoles x = Check.law("act ab make day+1;");
        x.put(0, 15);
        for (int i = 0; i < 5; i++) {
            for (int act : new int[] {LEAST, -1, 12, 64, MOST}) {
                doc.due("a FAULT", Check.cure(x, 0, "day=1 x"), NONE);
                doc.due("is told", x.fault(0), 1);
                doc.due("its place", x.fault(1), 6);
                doc.due("no ACT " + act, Check.cure(x, act, i % 2 == 0 ? "day" : "0=1"), NONE);
                doc.due("fault(0) tells 0", x.fault(0), 0);
                doc.due("fault(1) tells NONE", x.fault(1), NONE);
                doc.due("empty then", x.end(1), false);
            }
            doc.due("CURE " + i, Check.cure(x, 11, "0=1"), i);
        }
        for (String text : new String[] {"0=1", "day", ""}) {
            Check.statute(x, 1, "act");
            doc.due("there are five", Check.cure(x, 0, text), NONE);
            doc.due("fault(0) tells 0", x.fault(0), 0);
            doc.due("fault(1) tells NONE", x.fault(1), NONE);
            doc.due("empty then", x.end(1), false);
        }
        doc.due("none came", x.lawful(0, 3, 31, 1), NONE);
        x = new LawHoles();
        doc.due("an empty one", x.cure(0), NONE);
        doc.due("is a FAULT", x.fault(0), 1);
        doc.due("at 0", x.fault(1), 0);
    }

    /** All that U may be of is there, so that what is 0 is so by the document alone. */
    private static LawHoles full(String act) {
        LawHoles x = Check.law(act);
        for (int p = 0; p < 3; p++) {
            x.coin(p, 7);
            x.owner(p, p == 0 ? 3 : p);
            for (int q = 0; q < 3; q++) {
                x.debt(p, q, 3);
                x.kin(p, q, 0, true);
                x.kin(p, q, 1, true);
            }
        }
        x.day(2);
        return x;
    }

    /** A U in a CURE of an ACT, whose CODE is told. */
    private void isThere(String act, int code, String unit, int want) {
        LawHoles x = full("act ab " + act + ";");
        x.put(0, code);
        doc.due("CURE with " + unit, Check.cure(x, 0, unit + "=" + want), 0);
        doc.due(unit + " of " + act, x.lawful(0, 3, 1, 1), NONE);
        doc.due("CURE with not " + unit, Check.cure(x, 0, "not " + unit + "=" + want), 1);
        doc.due("not " + unit + " of " + act, x.lawful(0, 3, 2, 1), 11);
    }

    private void asOfThere() {
        doc.terms("a need more of an ACT by its number (as of there: a, b, t; where b or t has none, it is 3: all of U with it is 0).");
        String[] units = {"coin a", "things a", "day", "5", "owns a", "coin b", "debt a b", "debt b a", "wed a b", "wed b a",
            "child a b", "child b a", "owns b", "things b"};
        int[] alone = {7, 1, 2, 5, 0, 0, 0, 0, 0, 0, 0, 0, 0, 0};
        int[] withThing = {7, 1, 2, 5, 1, 0, 0, 0, 0, 0, 0, 0, 0, 0};
        int[] withOther = {7, 1, 2, 5, 0, 7, 3, 3, 1, 1, 1, 1, 0, 1};
        int[] withBoth = {7, 1, 2, 5, 1, 7, 3, 3, 1, 1, 1, 1, 0, 1};
        for (int i = 0; i < units.length; i++) {
            isThere("make day+1", 16 + 15, units[i], alone[i]);
            // THING 1, of which PERSON 1 is OWNER, as PERSON 2 is of THING 2
            isThere("make own a", 16 + 12 + 1, units[i], withThing[i]);
            isThere("make coin b+1", 16 + 8 + 3, units[i], withOther[i]);
            isThere("make own b", 16 + 8 + 1, units[i], withBoth[i]);
        }
        // nobody is OWNER of THING 0: not b, though it is 3
        isThere("make own a", 16 + 12, "owns b", 0);
        isThere("make own a", 16 + 12, "owns a", 0);
        isThere("make own b", 16 + 8 + 2, "owns b", 1);
        LawHoles x = full("act ab make day+1;");
        Check.cure(x, 0, "owns b=1 or coin b>0");
        doc.due("the ACT is done as it was", x.act(0, 0) + x.act(0, 1) + x.act(0, 2), 0);
    }

    private void stops() {
        doc.terms("A set of CURES STOPS a NEVER up to n ACTS (both STATUTES, all PERSONS):"
            + " no HOLE by a SEARCH that is not SPENT in which they count,");
        LawHoles x = Check.law("act ab make coin a+1;", "coin a=1 and day=1", "day=1", "coin a=0 and coin b=0 and day=0");
        Check.statute(x, 1, "act ab need coin b=1 make day+1;");
        doc.due("no HOLE up to 1", x.stop(0, 1, 0), 0);
        doc.due("a HOLE by both up to 2", x.stop(0, 2, 0), NONE);
        doc.due("by all PERSONS", x.stop(1, 2, 0), NONE);
        Check.cure(x, 0, "coin a=1");
        doc.due("it counts", x.stop(0, 2, 0), 1);
        doc.due("up to 6", x.stop(0, 6, 0), 1);
        doc.due("THE BEGINNING is one", x.stop(2, 0, 0), NONE);
        // the set of all of them is the one that counts for the first of them
        x = Check.law("act ab make day+1;act cd make coin a+1;", "day=1", "coin a=1");
        Check.cure(x, 1, "0=1");
        doc.due("it counts for the one", x.stop(1, 3, 0), 1);
        doc.due("not for the other", x.stop(0, 3, 0), NONE);
        x = Check.law("act ab make coin a+1;act cd make debt a b+1;", "coin a>9");
        doc.due("not SPENT", x.stop(0, 3, 0), 0);
        doc.due("no HOLE, but SPENT", x.stop(0, 4, 0), NONE);
        Check.cure(x, 0, "1=1");
        doc.due("no HOLE, but SPENT", x.stop(0, 4, 0), NONE);
        Check.cure(x, 1, "0=1");
        doc.due("not SPENT with it", x.stop(0, 4, 0), 2);
        for (int many = 400; many <= 401; many++) {
            x = Counter.of(many, "1=2");
            Check.cure(x, 0, "0=1");
            doc.due("of " + many, x.stop(0, 6, 0), many == 400 ? 0 : 1);
        }
    }

    private void honestRows() {
        doc.terms("and all HONEST ROWS are LAWFUL to their end with them.");
        for (int row = 0; row < 6; row++) {
            LawHoles x = Check.law("act ab make day+1;", "day=3");
            Check.statute(x, 1, "act ab make coin a+1;");
            Check.cure(x, 0, "day=9");
            Check.cure(x, 0, "day<1");
            Check.cure(x, 0, "day<2");
            doc.due("no HONEST ROW", x.stop(0, 3, 0), 1);
            x.put(row, 384 + 15);
            x.put(row, 15);
            doc.due("not HONEST", x.stop(0, 3, 0), 1);
            x.honest(row, true);
            doc.due("HONEST", x.stop(0, 3, 0), 2);
            x.put(row, 15);
            doc.due("to its end", x.stop(0, 3, 0), 4);
            x.put(row, 15);
            doc.due("to its end", x.stop(0, 3, 0), NONE);
            doc.due("with none of them it is LAWFUL", x.stop(0, 2, 0), 0);
            x.put(row, 767);
            doc.due("with none of them it is not", x.stop(0, 2, 0), NONE);
            x.clear(row);
            x.honest(row, true);
            doc.due("an empty one is", x.stop(0, 3, 0), 1);
            x.put((row + 1) % 6, 15);
            x.put((row + 1) % 6, 15);
            x.honest((row + 1) % 6, true);
            doc.due("all of them", x.stop(0, 3, 0), 4);
        }
    }

    private void fewest() {
        doc.terms("THE FEWEST that STOP it; of several sets the least as a number (CURE i counts 2 to the i).");
        for (int i = 0; i < 5; i++) {
            LawHoles x = Check.law("act ab make day+1;", "day=1");
            for (int j = 0; j < 5; j++) {
                Check.cure(x, 0, j == i ? "0=1" : "1=1");
            }
            doc.due("CURE " + i, x.stop(0, 1, 0), 1 << i);
            doc.due("alone", x.stop(0, 1, 1), 1);
        }
        // each of five ways must be stopped by a CURE of its own, or two of them by one
        String five = "act aa make day+1;act ab make day+1;act ac make day+1;act ad make day+1;act ae make day+1;";
        LawHoles x = Check.law(five, "day=1");
        for (int i = 0; i < 5; i++) {
            doc.due("not yet", x.stop(0, 1, 0), NONE);
            Check.cure(x, i, "0=1");
        }
        doc.due("all five", x.stop(0, 1, 0), 31);
        doc.due("five", x.stop(0, 1, 1), 5);
        // one CURE of a higher number is fewer than two of lower numbers
        x = Check.law("act aa make coin a+1;act ab need coin a=1 make day+1;act ac need coin a=1 make day+2;", "day>0");
        Check.cure(x, 1, "0=1");
        Check.cure(x, 2, "0=1");
        doc.due("two", x.stop(0, 6, 0), 3);
        doc.due("two", x.stop(0, 6, 1), 2);
        Check.cure(x, 4, "0=1");
        Check.cure(x, 0, "0=1");
        doc.due("one is fewer", x.stop(0, 6, 0), 8);
        doc.due("one", x.stop(0, 6, 1), 1);
        Check.cure(x, 0, "1=2");
        doc.due("the least of two", x.stop(0, 6, 0), 8);
        // two of several pairs
        x = Check.law("act aa make day+1;act ab make day+1;", "day=1");
        int[] acts = {0, 0, 1, 0, 1};
        for (int act : acts) {
            Check.cure(x, act, "0=1");
        }
        doc.due("CURES 0 and 2", x.stop(0, 1, 0), 5);
        x.put(0, 15);
        x.honest(0, true);
        doc.due("none", x.stop(0, 1, 0), NONE);
    }

    private void stopCalls() {
        doc.promise(24, "STOPS: what 0 the set of THE FEWEST CURES, 1 how many.");
        LawHoles x = Check.law("act aa make day+1;act ab make day+1;", "day=1", "day=9");
        Check.cure(x, 5, "0=1");
        Check.cure(x, 1, "0=1");
        Check.cure(x, 0, "0=1");
        doc.due("the set", x.stop(0, 1, 0), 6);
        doc.due("how many", x.stop(0, 1, 1), 2);
        doc.due("the empty set", x.stop(1, 6, 0), 0);
        doc.due("none of them", x.stop(1, 6, 1), 0);
    }

    private void stopRefused() {
        doc.promise(24, "NONE if none STOPS it, one can't be, or another what.");
        LawHoles x = Check.law("act aa make day+1;", "day=1", "day=0");
        Check.cure(x, 0, "0=1");
        for (int what = 0; what < 2; what++) {
            doc.due("none STOPS it", x.stop(1, 0, what), NONE);
            for (int k : new int[] {LEAST, -1, 2, 6, MOST}) {
                doc.due("NEVER " + k, x.stop(k, 1, what), NONE);
            }
            for (int n : new int[] {LEAST, -1, 7, MOST}) {
                doc.due("up to " + n, x.stop(0, n, what), NONE);
            }
            doc.due("what can be", x.stop(0, 6, what), 1);
        }
        for (int what : new int[] {LEAST, -1, 2, 20, MOST}) {
            doc.due("what " + what, x.stop(0, 6, what), NONE);
        }
    }
}
