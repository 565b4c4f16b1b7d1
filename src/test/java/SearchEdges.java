/** What the document says of NEVERS, SEARCHES and HOLES, of STATES that are ALIKE and of GAIN: promises 19 to 23. */
final class SearchEdges {
    private static final int NONE = LawHoles.NONE;
    private static final int SPENT = LawHoles.SPENT;
    private static final int LEAST = Integer.MIN_VALUE;
    private static final int MOST = Integer.MAX_VALUE;
    /** By it there are 220 STATES with 3 ACTS, and far more than 400 with 4. */
    private static final String WIDE = "act earn make coin a+1;act owe make debt a b+1;";

    private final Sentences doc;

    SearchEdges(Sentences doc) {
        this.doc = doc;
    }

    void run() {
        nevers();
        byLaws();
        upToActs();
        withPersons();
        inOrder();
        untilSpent();
        rowsOfStates();
        holes();
        holeWhats();
        holeRefused();
        holeSpent();
        friends();
        friendsRefused();
        only();
        onlyRefused();
        alike();
        met();
        gains();
        gainRefused();
    }

    /** Whether THE BEGINNING is a NEVER. */
    private static boolean isNever(LawHoles x, int k) {
        return x.hole(k, 3, 0, 7, 0) == 0;
    }

    private void nevers() {
        doc.terms("NEVERS 0 .. 5 as they come are TEXTS = B:");
        LawHoles x = Check.law("", "day=0", "day=1", "day=2", "day=3", "day=4", "day=5");
        for (int day = 0; day < 6; day++) {
            x.day(day);
            for (int k = 0; k < 6; k++) {
                doc.due("NEVER " + k + " at " + day, isNever(x, k), k == day);
            }
        }
        doc.terms("a STATE is one, if B is so for some a, some unlike b, some t (also if they do not stand in it).");
        x = Check.law("", "1=1", "1=2", "coin a=9", "coin b=9", "coin a=coin b", "coin a+coin b=18");
        doc.due("without any of them", isNever(x, 0), true);
        doc.due("without any of them", isNever(x, 1), false);
        for (int p = 0; p < 3; p++) {
            x.coin(0, 1);
            x.coin(1, 2);
            x.coin(2, 3);
            doc.due("for no a", isNever(x, 2), false);
            x.coin(p, 9);
            doc.due("for a " + p, isNever(x, 2), true);
            doc.due("for b " + p, isNever(x, 3), true);
            doc.due("unlike b", isNever(x, 4), false);
            doc.due("unlike b", isNever(x, 5), false);
        }
        for (int pair = 1; pair < 8; pair++) {
            x = Check.law("", "debt a b=1", "debt b a=1 and wed a b=1", "child a b=1", "child a b=1 and debt b a=1");
            x.debt(pair / 3, pair % 3, 1);
            doc.due("for pair " + pair, isNever(x, 0), pair != 4);
            x.kin(pair % 3, pair / 3, 0, true);
            doc.due("for pair " + pair, isNever(x, 1), pair != 4);
            x.kin(pair / 3, pair % 3, 1, true);
            doc.due("for pair " + pair, isNever(x, 2), pair != 4);
            doc.due("for one a and b at once", isNever(x, 3), false);
        }
        for (int t = 0; t < 3; t++) {
            x = Check.law("", "owns a=1", "owns a=1 and coin a=1", "owns b=1 and coin a=1", "owns a=0 and owns b=0");
            x.owner(t, t);
            doc.due("for t " + t, isNever(x, 0), true);
            doc.due("for one a and t at once", isNever(x, 1), false);
            x.coin((t + 1) % 3, 1);
            doc.due("for one a and t at once", isNever(x, 1), false);
            doc.due("for a, b and t", isNever(x, 2), true);
            x.owner((t + 1) % 3, t);
            x.owner((t + 2) % 3, t);
            doc.due("for others", isNever(x, 3), true);
        }
        someOfEach();
    }

    /** For each a, b and t, and for nobody else. */
    private void someOfEach() {
        for (int code = 0; code < 64; code++) {
            int a = code / 16;
            int b = code / 4 % 4;
            int t = code % 4;
            if (a == 3 || b == 3 || t == 3 || a == b) {
                continue;
            }
            LawHoles x = Check.law("", "owns a=1 and coin b=9", "owns b=1 and coin a=9", "owns a=1 and debt a b=1", "owns a=1 and debt b a=1");
            x.owner(t, a);
            x.coin(b, 9);
            doc.due("for a, b and t of " + code, isNever(x, 0), true);
            doc.due("for b, a and t of " + code, isNever(x, 1), true);
            x.debt(a, b, 1);
            doc.due("for a, b and t of " + code, isNever(x, 2), true);
            doc.due("for no other way of " + code, isNever(x, 3), false);
        }
        LawHoles x = Check.law("", "coin a=0", "coin b=0", "owns a=0 and things a=3", "debt a b=0", "wed a b=0", "child a b=0");
        for (int p = 0; p < 3; p++) {
            x.coin(p, 1);
            x.owner(p, 0);
            for (int q = 0; q < 3; q++) {
                x.debt(p, q, 1);
                x.kin(p, q, 0, true);
                x.kin(p, q, 1, true);
            }
        }
        for (int k = 0; k < 6; k++) {
            doc.due("nobody is neither a nor b, no THING is t: NEVER " + k, isNever(x, k), false);
        }
    }

    private void byLaws() {
        doc.terms("A SEARCH by LAWS (1 STATUTE 0, 2 STATUTE 1, 3 both),");
        LawHoles x = Check.law("act ab make coin a+1;", "coin a=1", "day=1", "coin a=1 and day=1");
        Check.statute(x, 1, "act ab make day+1;");
        int[][] want = {{1, NONE, 1}, {NONE, 1, 1}, {NONE, NONE, 2}};
        for (int k = 0; k < 3; k++) {
            for (int laws = 1; laws <= 3; laws++) {
                doc.due("NEVER " + k + " by " + laws, x.hole(k, laws, 6, 7, 0), want[k][laws - 1]);
            }
        }
        int[] met = {NONE, 4, 2, 5, NONE};
        for (int laws = 0; laws <= 4; laws++) {
            doc.due("met by " + laws, x.met(laws, 1, false), met[laws]);
        }
    }

    private void upToActs() {
        doc.terms("up to n ACTS (0 .. 6),");
        for (int n = -1; n <= 7; n++) {
            LawHoles x = Check.law("act ab need coin a=day make coin a+1 make day+1;", "day=" + Math.max(n, 0), "day>" + Math.max(n, 0));
            boolean can = n >= 0 && n <= 6;
            doc.due("n of " + n, x.hole(0, 1, n, 1, 0), can ? n : NONE);
            doc.due("n + 1 of " + n, x.hole(1, 1, n, 1, 0), NONE);
            doc.due("met up to " + n, x.hole(1, 1, n, 1, 20), can ? n + 1 : NONE);
            doc.due("n of " + n, x.friends(0, 1, n), can ? 1 : NONE);
            doc.due("n + 1 of " + n, x.friends(1, 1, n), NONE);
            doc.due("n of " + n, x.only(0, n), can ? 0 : NONE);
            // by three PERSONS, but the first ACT shuts out the others
            doc.due("met up to " + n, x.met(1, n, true), can ? n + 1 : NONE);
            doc.due("gain up to " + n, x.gain(0, 1, n, 0), can ? n : NONE - 99);
            doc.due("stops up to " + n, x.stop(1, n, 0), can ? 0 : NONE);
        }
    }

    private void withPersons() {
        doc.terms("with PERSONS (a set 1 .. 7: a and b are of it),");
        for (int set = 0; set <= 8; set++) {
            int many = Integer.bitCount(set);
            boolean can = set >= 1 && set <= 7;
            LawHoles x = Check.law("act ab make coin a+1;", "1=2");
            doc.due("a of " + set, x.hole(0, 1, 1, set, 20), can ? 1 + many : NONE);
            x = Check.law("act ab make debt a b+1;", "1=2");
            doc.due("a and b of " + set, x.hole(0, 1, 1, set, 20), can ? 1 + many * (many - 1) : NONE);
            x = Check.law("act ab make coin b+1;", "1=2", "coin a=9");
            doc.due("b of " + set, x.hole(0, 1, 1, set, 20), can ? many > 1 ? 1 + many : 1 : NONE);
            x = Check.law("act ab make own a;", "1=2");
            doc.due("all THINGS by " + set, x.hole(0, 1, 1, set, 20), can ? 1 + 3 * many : NONE);
        }
        for (int p = 0; p < 3; p++) {
            for (int set = 1; set <= 7; set++) {
                LawHoles x = Check.law("act ab make coin a+1;", "coin a=1 and things a=1", "things b=1");
                x.owner(0, p);
                boolean isOfSet = (set >> p) % 2 == 1;
                doc.due(p + " of " + set, x.hole(0, 1, 1, set, 1), isOfSet ? 16 * p + 15 : NONE);
                doc.due("who is a NEVER need not be of it", x.hole(1, 1, 1, set, 0), 0);
            }
        }
        LawHoles x = Check.law("act ab make coin a+1;act cd make debt a b+1;", "1=2");
        for (int set : new int[] {7, 2, 6, 4, 5, 1, 3, 7, 4, 7, 1}) {
            int many = Integer.bitCount(set);
            doc.due("one behind the other, " + set, x.hole(0, 1, 1, set, 20), 1 + many * many);
        }
    }

    /** By how many STATES a NEVER is MET. */
    private void isMetAs(int place, String never) {
        LawHoles x = Check.law("act ab make coin a+1;act cd make day+1;", never);
        doc.due("place of " + never, x.hole(0, 1, 2, 7, 20), place);
        doc.due("is there one of " + never, x.hole(0, 1, 2, 7, 0) >= 0, true);
    }

    private void inOrder() {
        doc.terms("STATES are MET in order: THE BEGINNING; then of each STATE MET with less than n ACTS, in order,"
            + " all LAWFUL CODES, the least first: the STATE then, if it was not MET.");
        LawHoles x = Check.law("act ab make coin a+1;act cd make day+1;", "1=2", "1=1");
        doc.due("THE BEGINNING", x.hole(1, 1, 6, 7, 20), 1);
        doc.due("with less than 0", x.met(1, 0, false), 1);
        doc.due("with less than 1", x.met(1, 1, false), 5);
        doc.due("with less than 2", x.met(1, 2, false), 15);
        x.coin(0, 7);
        x.coin(1, 4);
        String[] order = {"coin a=7 and coin b=4 and day=0", "coin a=8", "coin a=5", "coin a=1", "day=1", "coin a=9", "coin a=8 and coin b=5",
            "coin a=8 and coin b=1", "coin a=8 and day=1", "coin a=6", "coin a=5 and coin b=1", "coin a=5 and day=1", "coin a=2",
            "coin a=1 and day=1", "day=2"};
        for (int i = 0; i < order.length; i++) {
            LawHoles y = Check.law("act ab make coin a+1;act cd make day+1;", order[i]);
            y.coin(0, 7);
            y.coin(1, 4);
            doc.due("place of " + order[i], y.hole(0, 1, 2, 7, 20), i + 1);
        }
        isMetAs(6, "coin a=2");
        isMetAs(7, "coin a=1 and coin b=1");
        isMetAs(15, "day=2");
        // CODES of STATUTE 1 are behind those of STATUTE 0, things behind persons
        x = Check.law("act ab make own b make day+1;", "things a=1 and coin a=0", "coin a=1");
        Check.statute(x, 1, "act ab make coin a+1;");
        doc.due("STATUTE 0 first", x.hole(0, 3, 1, 7, 20), 2);
        doc.due("STATUTE 1 behind", x.hole(1, 3, 1, 7, 20), 2 + 9);
        doc.due("a STATE that was MET is not MET again", x.met(1, 1, false), 10);
        x = Check.law("act ab need day=0 make day+1;act cd need day=1 make day+0-1;act ef;", "1=2");
        doc.due("there and back", x.met(1, 6, false), 2);
        doc.due("there and back", x.hole(0, 1, 6, 7, 0), NONE);
        allCodes();
        doc.terms("and CURES that count:");
        Check.cure(x, 0, "0=1");
        doc.due("none counts for met()", x.met(1, 6, false), 2);
        doc.due("none counts for hole()", x.hole(0, 1, 6, 7, 20), 2);
        Check.never(x, "day=1");
        doc.due("all that are told count for stop()", x.stop(1, 6, 0), 1);
    }

    /** As many CODES as there can be; and a SEARCH goes on from THE BEGINNING and the STATUTES as they are now. */
    private void allCodes() {
        StringBuilder six = new StringBuilder();
        for (char letter = 'a'; letter <= 'f'; letter++) {
            six.append("act a").append(letter).append(" need coin b=0 need owns a=0;");
        }
        String five = six.substring(0, six.indexOf("act af"));
        String last = five + "act af need coin a=9 and coin b=8 need owns b=1 make day+1;";
        for (int l = 0; l < 2; l++) {
            LawHoles x = Check.law("", "day=1");
            Check.statute(x, l, last);
            Check.statute(x, 1 - l, six.toString());
            x.coin(2, 9);
            x.coin(1, 8);
            x.owner(2, 1);
            doc.due("the last of all CODES", x.hole(0, 3, 1, 7, 1), 64 * (6 * l + 5) + 32 + 4 + 2);
        }
        LawHoles x = Check.law("act ab need owns a=1 make own none make day+1;", "day=1", "day=2");
        for (int t = 0; t < 3; t++) {
            doc.due("nobody has one", x.hole(0, 1, 1, 7, 1), NONE);
            x.owner(t, 1);
            doc.due("THING " + t, x.hole(0, 1, 1, 7, 1), 16 + 12 + t);
            x.owner(t, 3);
        }
        x.owner(0, 0);
        doc.due("one", x.hole(1, 1, 2, 7, 0), NONE);
        Check.statute(x, 0, "act ab make day+1;");
        doc.due("another STATUTE", x.hole(1, 1, 2, 7, 0), 2);
        Check.statute(x, 0, "");
        doc.due("another STATUTE", x.hole(1, 1, 2, 7, 0), NONE);
    }

    private void untilSpent() {
        doc.terms("SPENT: the 401st STATE would be MET (it ends there).");
        for (int many = 399; many <= 402; many++) {
            LawHoles x = Counter.of(many, "1=2");
            doc.due("met() of " + many, x.met(1, 6, false), many > 400 ? SPENT : many);
            doc.due("hole() of " + many, x.hole(0, 1, 6, 7, 0), many > 400 ? SPENT : NONE);
            doc.due("hole() of " + many, x.hole(0, 1, 6, 7, 20), Math.min(many, 400));
            doc.due("gain() of " + many, x.gain(2, 1, 6, 1), many > 400 ? SPENT - 99 : 0);
            doc.due("only() of " + many, x.only(0, 6), many > 400 ? SPENT : 0);
            doc.due("stop() of " + many, x.stop(0, 6, 1), many > 400 ? NONE : 0);
        }
        boolean[] isTaken = new boolean[401];
        int spent = 0;
        for (int value : Counter.values(401)) {
            LawHoles x = Counter.of(401, Counter.SUM + "=" + Counter.number(value));
            int place = x.hole(0, 1, 6, 7, 20);
            doc.due("place of " + value, place >= 1 && place <= 400, true);
            if (x.hole(0, 1, 6, 7, 0) == SPENT) {
                spent++;
                doc.due("it ends there", place, 400);
            } else {
                doc.due("a place of its own", isTaken[place], false);
                isTaken[place] = true;
            }
        }
        doc.due("of 401 STATES one is not MET", spent, 1);
        doc.due("the 400th is", isTaken[400], true);
    }

    private void rowsOfStates() {
        doc.terms("THE ROW of a STATE: the CODES by which it was MET.");
        LawHoles x = Check.law("act ab make coin a+1;act cd need coin a=1 and coin b=1 make debt b a+1;act ef need debt a b=1 make own b;",
            "things a=1 and debt a b=0", "coin a=1 and coin b=1", "debt a b=1");
        int[] codes = {15, 31, 64 + 7, 128 + 16};
        doc.due("four", x.hole(0, 1, 4, 7, 0), 4);
        for (int i = 0; i < 4; i++) {
            doc.due("CODE " + i, x.hole(0, 1, 4, 7, 1 + i), codes[i]);
            x.put(0, x.hole(0, 1, 4, 7, 1 + i));
        }
        doc.due("they are LAWFUL", x.lawful(0, 1, 0, 0), 4);
        doc.due("they go there", x.after(0, 40), 0);
        doc.due("by the first of two ways", x.hole(1, 1, 4, 7, 1), 15);
        doc.due("by the first of two ways", x.hole(1, 1, 4, 7, 2), 31);
        doc.due("by the first of two CODES", x.hole(2, 1, 4, 7, 3), 64 + 7);
    }

    private void holes() {
        doc.terms("A HOLE of a NEVER: THE ROW of the first STATE MET that is one (without CURES).");
        LawHoles x = Check.law("act ab make day+2;act cd make day+3;act ef make coin a+1 make day+1;", "day>5", "day>2", "day>3", "day=0", "day=5");
        Check.cure(x, 1, "0=1");
        doc.due("the fewest ACTS", x.hole(0, 1, 6, 7, 0), 2);
        doc.due("the first CODE", x.hole(0, 1, 6, 7, 1), 64 + 15);
        doc.due("the next CODE", x.hole(0, 1, 6, 7, 2), 64 + 15);
        doc.due("one ACT", x.hole(1, 1, 6, 7, 1), 64 + 15);
        doc.due("two ACTS, the least first", x.hole(2, 1, 6, 7, 1), 15);
        doc.due("two ACTS, the least first", x.hole(2, 1, 6, 7, 2), 15);
        doc.due("no ACT", x.hole(3, 1, 6, 7, 0), 0);
        doc.due("the least first", x.hole(4, 1, 6, 7, 1), 15);
        doc.due("then the other", x.hole(4, 1, 6, 7, 2), 64 + 15);
        doc.promise(19, "A HOLE of a NEVER by a SEARCH (LAWS, up to n ACTS, PERSONS):");
        doc.due("up to 1", x.hole(2, 1, 1, 7, 0), NONE);
        doc.due("up to 2", x.hole(2, 1, 2, 7, 0), 2);
        doc.due("by 2", x.hole(2, 2, 2, 7, 0), NONE);
        doc.due("by PERSON 2", x.hole(2, 1, 2, 4, 1), 47);
    }

    private void holeWhats() {
        doc.promise(19, "what 0 how many CODES, 1 + k CODE k, 20 how many STATES were MET by then (in all without one).");
        LawHoles x = Check.law("act ab need coin a=day make coin a+1 make day+1;", "day=6", "day=0", "day=7");
        doc.due("six CODES", x.hole(0, 1, 6, 4, 0), 6);
        for (int k = 0; k < 6; k++) {
            doc.due("CODE " + k, x.hole(0, 1, 6, 4, 1 + k), 47);
        }
        doc.due("all were MET by then", x.hole(0, 1, 6, 4, 20), 7);
        doc.due("no CODE", x.hole(1, 1, 6, 4, 0), 0);
        doc.due("THE BEGINNING by then", x.hole(1, 1, 6, 4, 20), 1);
        doc.due("in all", x.hole(2, 1, 6, 4, 20), 7);
        doc.due("in all up to 0", x.hole(2, 1, 0, 4, 20), 1);
        doc.due("in all by no law", x.hole(2, 2, 6, 4, 20), 1);
    }

    private void holeRefused() {
        doc.promise(19, "NONE if there is none (but for 20), one can't be, there is no such CODE, or another what;");
        LawHoles x = Check.law("act ab make day+1;", "day=2", "day=15");
        doc.due("there is none", x.hole(1, 1, 6, 7, 0), NONE);
        doc.due("there is none", x.hole(1, 1, 6, 7, 1), NONE);
        doc.due("but for 20", x.hole(1, 1, 6, 7, 20), 7);
        doc.due("CODE 1", x.hole(0, 1, 6, 7, 2), 15);
        for (int what = 3; what < 20; what++) {
            doc.due("no CODE " + (what - 1), x.hole(0, 1, 6, 7, what), NONE);
        }
        for (int what : new int[] {LEAST, -2, -1, 21, 22, 40, 120, MOST}) {
            doc.due("another what " + what, x.hole(0, 1, 6, 7, what), NONE);
        }
        for (int what : new int[] {0, 1, 20}) {
            for (int k : new int[] {LEAST, -1, 2, 5, 6, MOST}) {
                doc.due("NEVER " + k, x.hole(k, 1, 6, 7, what), NONE);
            }
            for (int laws : new int[] {LEAST, -1, 0, 4, MOST}) {
                doc.due("LAWS " + laws, x.hole(0, laws, 6, 7, what), NONE);
            }
            for (int n : new int[] {LEAST, -1, 7, MOST}) {
                doc.due("up to " + n, x.hole(0, 1, n, 7, what), NONE);
            }
            for (int persons : new int[] {LEAST, -1, 0, 8, MOST}) {
                doc.due("PERSONS " + persons, x.hole(0, 1, 6, persons, what), NONE);
            }
        }
        doc.due("what can be", x.hole(0, 1, 6, 7, 1), 15);
    }

    private void holeSpent() {
        doc.promise(19, "SPENT if it was SPENT ahead of one (but for what 20).");
        LawHoles x = Check.law(WIDE, "coin a>3", "coin a>4", "coin a>9");
        doc.due("it is SPENT", x.met(1, 5, false), SPENT);
        doc.due("behind one", x.hole(0, 1, 5, 7, 0), 4);
        doc.due("behind one", x.hole(0, 1, 5, 7, 4), 15);
        doc.due("behind one", x.hole(0, 1, 5, 7, 5), NONE);
        doc.due("behind one", x.hole(0, 1, 5, 7, 20), 221);
        for (int n = 4; n <= 6; n++) {
            for (int what = 0; what <= 22; what++) {
                // ahead of a HOLE there is no CODE at all, from n on as below it: "but for what 20" alone
                int want = what == 20 ? 400 : what < 20 ? SPENT : NONE;
                doc.due("ahead of one up to " + n + ", what " + what, x.hole(2, 1, n, 7, what), want);
            }
            doc.due("another what", x.hole(2, 1, n, 7, -1), NONE);
        }
        doc.due("it is not SPENT", x.hole(2, 1, 3, 7, 0), NONE);
        doc.due("less PERSONS", x.hole(1, 1, 5, 1, 0), 5);
    }

    private void friends() {
        doc.terms("FRIENDS: the PERSONS of the set with the fewest, then the least number, with which there is a HOLE (SPENT ones have none).");
        // a set in which all marked ones must be
        for (int set = 1; set <= 7; set++) {
            LawHoles x = Check.law("", "day=1", "day=" + Integer.bitCount(set));
            Check.statute(x, 1, "act cd need owns a=1 make own none make day+1;");
            for (int p = 0; p < 3; p++) {
                x.owner(p, (set >> p) % 2 == 1 ? p : 3);
            }
            doc.due("all of " + set, x.friends(1, 2, 6), set);
            doc.due("the least one of " + set, x.friends(0, 2, 6), set & -set);
            doc.due("too few ACTS for " + set, x.friends(1, 2, Integer.bitCount(set) - 1), NONE);
        }
        LawHoles x = Check.law("act ab make coin b+1;", "coin a=1", "coin a=1 and things a=1", "day=0");
        doc.due("the least of two", x.friends(0, 1, 6), 3);
        doc.due("the least of one", x.friends(2, 1, 6), 1);
        x.owner(0, 2);
        doc.due("the least with PERSON 2", x.friends(1, 1, 6), 5);
        x.owner(0, 1);
        doc.due("the least with PERSON 1", x.friends(1, 1, 6), 3);
        Check.cure(x, 0, "0=1");
        doc.due("without CURES", x.friends(1, 1, 6), 3);
        x = Check.law("act ab need things a=1 make day+1;act cd need things a+things b=0 make day+1;", "day=1");
        x.owner(0, 2);
        doc.due("0 and 1 could", x.hole(0, 1, 1, 3, 0), 1);
        doc.due("PERSON 2 alone is fewer", x.friends(0, 1, 1), 4);
        x = Check.law("act ab need things a=1 make coin a+1;act ac need things a=1 make coin b+1;act ad need things a=1 make debt a b+1;"
            + "act ae need things a=1 make debt b a+1;act af need things a=1 make day+1;", "wed a b=1");
        Check.statute(x, 1, "act ab need child a b=1 make wed a b;");
        x.owner(0, 1);
        x.kin(2, 0, 1, true);
        doc.due("0 and 1 are SPENT", x.hole(0, 3, 6, 3, 0), SPENT);
        doc.due("SPENT ones have none", x.friends(0, 3, 6), 5);
        x.kin(2, 0, 1, false);
        doc.due("all are SPENT or have none", x.friends(0, 3, 6), NONE);
        doc.promise(20, "FRIENDS of a NEVER by LAWS up to n ACTS: the set;");
        x.kin(1, 0, 1, true);
        doc.due("by 2", x.friends(0, 2, 1), 3);
        doc.due("by both, ahead of SPENT", x.friends(0, 3, 6), 3);
        doc.due("by 1", x.friends(0, 1, 1), NONE);
        doc.due("up to 0", x.friends(0, 3, 0), NONE);
        x.kin(1, 2, 0, true);
        doc.due("THE BEGINNING", x.friends(0, 3, 0), 1);
    }

    private void friendsRefused() {
        doc.promise(20, "NONE if there is none, or one can't be.");
        LawHoles x = Check.law("act ab make day+1;", "day=0", "day=9");
        doc.due("there is none", x.friends(1, 1, 6), NONE);
        for (int k : new int[] {LEAST, -1, 2, 6, MOST}) {
            doc.due("NEVER " + k, x.friends(k, 1, 6), NONE);
        }
        for (int laws : new int[] {LEAST, -1, 0, 4, MOST}) {
            doc.due("LAWS " + laws, x.friends(0, laws, 6), NONE);
        }
        for (int n : new int[] {LEAST, -1, 7, MOST}) {
            doc.due("up to " + n, x.friends(0, 1, n), NONE);
        }
        doc.due("what can be", x.friends(0, 1, 6), 1);
    }

    private void only() {
        doc.terms("ONLY: there is a HOLE by both STATUTES, but by neither alone.");
        LawHoles x = Check.law("act ab make coin a+1;", "coin a=1", "day=1", "coin a=1 and day=1", "coin a=0", "coin a=9", "coin a+day=1 or coin a=0 and day=2");
        Check.statute(x, 1, "act ab make day+1;");
        int[] want = {0, 0, 1, 0, 0, 0};
        for (int k = 0; k < 6; k++) {
            doc.due("NEVER " + k, x.only(k, 3), want[k]);
        }
        doc.promise(21, "ONLY: 1 or 0;");
        doc.due("up to 1", x.only(2, 1), 0);
        doc.due("up to 2", x.only(2, 2), 1);
        doc.due("up to 0", x.only(2, 0), 0);
        Check.cure(x, 0, "0=1");
        doc.due("without CURES", x.only(2, 2), 1);
        x = Check.law("act ab need day=1 make coin b+1;", "coin a=1");
        Check.statute(x, 1, "act ab make day+1;");
        doc.due("by all PERSONS", x.only(0, 2), 1);
    }

    private void onlyRefused() {
        doc.promise(21, "NONE if one can't be;");
        LawHoles x = Check.law("act ab make day+1;", "day=1");
        for (int k : new int[] {LEAST, -1, 1, 6, MOST}) {
            doc.due("NEVER " + k, x.only(k, 1), NONE);
        }
        for (int n : new int[] {LEAST, -1, 7, MOST}) {
            doc.due("up to " + n, x.only(0, n), NONE);
        }
        doc.promise(21, "SPENT if one of the three SEARCHES was SPENT without a HOLE.");
        String[] nevers = {"coin a=1", "day=1", "coin a=1 and day=1", "coin a=9", "coin a=0"};
        for (int wide = 0; wide < 2; wide++) {
            x = Check.law("", nevers);
            Check.statute(x, wide, WIDE);
            Check.statute(x, 1 - wide, "act ab make day+1;");
            doc.due("a HOLE by the wide one and by both", x.only(0, 4), 0);
            doc.due("by the narrow one and by both; the wide one SPENT", x.only(1, 4), SPENT);
            doc.due("by both; the wide one SPENT", x.only(2, 4), SPENT);
            doc.due("by none; two SPENT", x.only(3, 4), SPENT);
            doc.due("by all", x.only(4, 4), 0);
            doc.due("none SPENT", x.only(2, 2), 1);
        }
        // just both together are too many
        x = Check.law("act ab make coin a+1;act ac make own a;", "coin a=9", "coin a=1 and things a=1");
        Check.statute(x, 1, "act ab make day+1;act ac make debt a b+1;");
        doc.due("STATUTE 0 alone is not up to 3", x.met(1, 3, false), 245);
        doc.due("STATUTE 1 alone is not up to 3", x.met(2, 3, false), 120);
        doc.due("both are up to 3", x.met(3, 3, false), SPENT);
        doc.due("SPENT by both alone", x.only(0, 3), SPENT);
        doc.due("a HOLE by one ahead of it", x.only(1, 3), 0);
    }

    /** Whether the STATES of a law that are MET are so many, and so many but for names. */
    private void isAlike(LawHoles x, int n, int many, int unlike) {
        doc.due("so many", x.met(1, n, false), many);
        doc.due("but for names", x.met(1, n, true), unlike);
    }

    private void alike() {
        doc.terms("STATES are ALIKE but for names, if some renaming of PERSONS and some of THINGS makes the one of the other.");
        String swap = "act ab make coin a+coin b-coin a make coin b+coin a-coin b";
        LawHoles x = Check.law(swap + ";");
        for (int p = 0; p < 3; p++) {
            x.coin(p, p + 1);
        }
        isAlike(x, 1, 4, 1);
        isAlike(x, 2, 6, 1);
        x.debt(0, 1, 1);
        isAlike(x, 2, 6, 6);
        x.debt(0, 1, 0);
        x.owner(0, 1);
        isAlike(x, 2, 6, 3);
        x.owner(0, 3);
        x.kin(2, 1, 0, true);
        isAlike(x, 2, 6, 3);
        x.kin(2, 1, 0, false);
        x.kin(2, 1, 1, true);
        isAlike(x, 2, 6, 6);
        // both at once: the COINS go round, and the THINGS
        x = Check.law(swap + ";act cd need owns a=1 make own b;");
        for (int p = 0; p < 3; p++) {
            x.coin(p, p + 1);
            x.owner(p, p == 2 ? 3 : p);
        }
        isAlike(x, 4, 54, 6);
        x.owner(2, 2);
        isAlike(x, 5, 162, 10);
        // DEBTS, CHILDREN and WED ones go with their PERSONS, both ends
        x = Check.law("act ab make debt a b+1;");
        isAlike(x, 1, 7, 2);
        isAlike(x, 2, 28, 7);
        x = Check.law("act ab make adopt a b;");
        isAlike(x, 1, 7, 2);
        isAlike(x, 2, 22, 6);
        x = Check.law("act ab make wed a b;");
        isAlike(x, 1, 4, 2);
        isAlike(x, 3, 8, 4);
        // THINGS: which one does not matter, whose does, if he is told from others
        x = Check.law("act ab make own a;");
        isAlike(x, 1, 10, 2);
        isAlike(x, 3, 64, 7);
        x.coin(0, 1);
        isAlike(x, 1, 10, 3);
        x.coin(0, 0);
        x.owner(0, 0);
        isAlike(x, 1, 9, 3);
        x = Check.law("act ab make day+1;");
        isAlike(x, 3, 4, 4);
        x = Check.law("act ab make own a make coin a+1;");
        x.owner(0, 1);
        x.owner(1, 2);
        isAlike(x, 1, 10, 5);
    }

    private void met() {
        doc.promise(22, "How many STATES are MET by LAWS up to n ACTS (all PERSONS, no CURES);"
            + " of those ALIKE but for names just one counts, if it is told so.");
        LawHoles x = Check.law("act ab make coin a+1;");
        Check.statute(x, 1, "act ab make wed a b;");
        Check.cure(x, 0, "0=1");
        Check.cure(x, 6, "0=1");
        int[] met = {4, 4, 7};
        int[] unlike = {2, 2, 3};
        for (int laws = 1; laws <= 3; laws++) {
            doc.due("up to 0", x.met(laws, 0, false), 1);
            doc.due("up to 0", x.met(laws, 0, true), 1);
            doc.due("up to 1", x.met(laws, 1, false), met[laws - 1]);
            doc.due("up to 1", x.met(laws, 1, true), unlike[laws - 1]);
        }
        doc.due("up to 6", x.met(1, 6, false), 84);
        doc.due("up to 6", x.met(1, 6, true), 23);
        doc.promise(22, "NONE if one can't be; SPENT if it was.");
        for (int laws : new int[] {LEAST, -1, 0, 4, MOST}) {
            doc.due("LAWS " + laws, x.met(laws, 1, false), NONE);
            doc.due("LAWS " + laws, x.met(laws, 1, true), NONE);
        }
        for (int n : new int[] {LEAST, -1, 7, MOST}) {
            doc.due("up to " + n, x.met(1, n, false), NONE);
            doc.due("up to " + n, x.met(1, n, true), NONE);
        }
        x = Check.law(WIDE);
        doc.due("220", x.met(1, 3, false), 220);
        doc.due("SPENT", x.met(1, 4, false), SPENT);
        doc.due("SPENT, though few are unlike", x.met(1, 4, true), SPENT);
        doc.due("not by the other", x.met(2, 4, true), 1);
    }

    private void gains() {
        doc.terms("GAIN of a PERSON: of all STATES MET (all PERSONS, no CURES) the most that its COIN is less all its DEBTS; of several the first.");
        LawHoles x = Check.law("act ab need coin a>0 make coin a-1 make coin b+2 make debt b a+1;act cd make day+1;");
        Check.cure(x, 0, "0=1");
        x.coin(0, 2);
        x.debt(1, 0, 3);
        x.debt(1, 2, 4);
        x.debt(2, 1, 7);
        doc.due("of PERSON 0", x.gain(0, 1, 2, 0), 2);
        doc.due("of PERSON 1", x.gain(1, 1, 2, 0), -5);
        doc.due("of PERSON 2, whose DEBT goes on", x.gain(2, 1, 2, 0), -5);
        x = Check.law("act ab make coin a+1 make debt a b+1;act cd make day+1;");
        doc.due("of several", x.gain(1, 1, 3, 0), 0);
        doc.due("the first", x.gain(1, 1, 3, 1), 0);
        x = Check.law("act ab make coin b+1 make day+1;act cd make coin a+1 make day+2;act ef make coin a+1;");
        doc.due("of several", x.gain(2, 1, 1, 0), 1);
        doc.due("the first", x.gain(2, 1, 1, 2), 8 + 3);
        doc.promise(23, "GAIN of a PERSON by LAWS up to n ACTS: what 0 that, 1 how many CODES THE ROW has, 2 + k CODE k.");
        x = Check.law("act ab need coin a=day make coin a+1 make day+1;");
        Check.statute(x, 1, "act ab make debt a b+1;");
        for (int n = 0; n <= 6; n++) {
            doc.due("up to " + n, x.gain(1, 1, n, 0), n);
            doc.due("up to " + n, x.gain(1, 1, n, 1), n);
            for (int k = 0; k < n; k++) {
                doc.due("CODE " + k, x.gain(1, 1, n, 2 + k), 31);
            }
            doc.due("no CODE " + n, x.gain(1, 1, n, 2 + n), NONE - 99);
        }
        doc.due("by STATUTE 1", x.gain(1, 2, 2, 0), 0);
        x.debt(1, 0, 7);
        x.debt(1, 2, 7);
        doc.due("the lowest", x.gain(1, 2, 0, 0), -14);
        x.debt(1, 2, 0);
        x.coin(1, 6);
        doc.due("-1 is no NONE", x.gain(1, 2, 0, 0), NONE);
        x.coin(1, 5);
        doc.due("-2 is no SPENT", x.gain(1, 2, 0, 0), SPENT);
        x.debt(1, 0, 0);
        x.coin(1, 15);
        doc.due("the most", x.gain(1, 1, 6, 0), 15);
    }

    private void gainRefused() {
        doc.promise(23, "NONE - 99 if one can't be, there is no such CODE, or another what;");
        LawHoles x = Check.law("act ab make coin a+1;");
        for (int what = 0; what < 3; what++) {
            for (int p : new int[] {LEAST, -1, 3, MOST}) {
                doc.due("PERSON " + p, x.gain(p, 1, 2, what), -100);
            }
            for (int laws : new int[] {LEAST, -1, 0, 4, MOST}) {
                doc.due("LAWS " + laws, x.gain(0, laws, 2, what), -100);
            }
            for (int n : new int[] {LEAST, -1, 7, MOST}) {
                doc.due("up to " + n, x.gain(0, 1, n, what), -100);
            }
        }
        doc.due("CODE 1", x.gain(0, 1, 2, 3), 15);
        for (int what : new int[] {LEAST, -2, -1, 4, 5, 6, 7, 8, 9, 20, MOST}) {
            doc.due("what " + what, x.gain(0, 1, 2, what), -100);
        }
        doc.due("no CODE by STATUTE 1", x.gain(0, 2, 2, 2), -100);
        doc.promise(23, "SPENT - 99 if it was SPENT.");
        x = Check.law(WIDE);
        for (int n = 4; n <= 6; n++) {
            for (int what = -1; what <= 22; what++) {
                int want = what >= 0 ? -101 : -100;
                doc.due("up to " + n + ", what " + what, x.gain(0, 1, n, what), want);
            }
        }
        doc.due("not SPENT", x.gain(0, 1, 3, 0), 3);
    }
}
