/** What the document says of ACTS and their CODES, of U in a STATE and of what is LAWFUL; promise 13. */
final class ActEdges {
    private static final int NONE = LawHoles.NONE;

    private final Sentences doc;

    ActEdges(Sentences doc) {
        this.doc = doc;
    }

    void run() {
        numbers();
        withWhom();
        codes();
        units();
        needs();
        bounds();
        asOfAhead();
        oneBehindTheOther();
        otherMakes();
        actCalls();
    }

    /** Why a CODE is not LAWFUL in THE BEGINNING. */
    private static int why(LawHoles x, int code) {
        x.clear(0);
        x.put(0, code);
        return x.lawful(0, 3, 0, 1);
    }

    private static LawHoles law(String statute) {
        LawHoles x = new LawHoles();
        Check.statute(x, 0, statute);
        return x;
    }

    private void numbers() {
        doc.terms("ACTS are numbered 6 times the STATUTE and in their order from 0 on.");
        LawHoles x = law("act zz make day+1;act yy make day+1 make day+1;");
        Check.statute(x, 1, "act xx;act ww need 1=1;act vv need 1=1 need 1=1;act uu;act tt;act aa need 1=1;");
        int[] needs = {0, 0, NONE, NONE, NONE, NONE, 0, 1, 2, 0, 0, 1, NONE};
        int[] makes = {1, 2, NONE, NONE, NONE, NONE, 0, 0, 0, 0, 0, 0, NONE};
        for (int i = 0; i < needs.length; i++) {
            doc.due("needs of ACT " + i, x.act(i, 2), needs[i]);
            doc.due("makes of ACT " + i, x.act(i, 3), makes[i]);
        }
        for (int i = 0; i < 12; i++) {
            doc.due("a CODE of ACT " + i, why(x, 64 * i + 15), i < 2 || i >= 6 ? NONE : 30);
        }
    }

    private void isWith(String act, int other, int thing) {
        LawHoles x = new LawHoles();
        doc.due("statute of " + act, Check.statute(x, 1, "act pre need debt a b=owns a;act ab " + act + ";act post make own b;"), 3);
        doc.due("b in " + act, x.act(7, 0), other);
        doc.due("t in " + act, x.act(7, 1), thing);
        int code = 64 * 7 + (other == 1 ? 4 : 12) + (thing == 1 ? 0 : 3);
        x.coin(0, 5);
        x.debt(0, 1, 3);
        x.debt(1, 0, 3);
        doc.due("CODE of " + act, why(x, code), NONE);
        int notSo = other == 1 ? code + 8 : code - 8;
        doc.due("no other CODE of " + act, why(x, notSo) + why(x, code ^ 3) + why(x, notSo ^ 3), 90);
    }

    private void withWhom() {
        doc.terms("An ACT is done by a PERSON a, with another one b if b stands in it somewhere, with a THING t if own or owns does.");
        isWith("", 0, 0);
        isWith("need coin a>1 make coin a+1", 0, 0);
        isWith("need things a=0 and day=0", 0, 0);
        isWith("need coin b=0", 1, 0);
        isWith("need 1=1 need 1=1 or not (day=1 and coin b=0)", 1, 0);
        isWith("need debt a b=3", 1, 0);
        isWith("need debt b a=3", 1, 0);
        isWith("need wed a b=0", 1, 0);
        isWith("need child a b=0", 1, 0);
        isWith("need things b=0", 1, 0);
        isWith("make coin b+1", 1, 0);
        isWith("make coin a+coin b", 1, 0);
        isWith("make day+debt a b", 1, 0);
        isWith("make debt a b+1", 1, 0);
        isWith("make wed a b", 1, 0);
        isWith("make part b a", 1, 0);
        isWith("make adopt a b", 1, 0);
        isWith("make own a", 0, 1);
        isWith("make own none", 0, 1);
        isWith("make own b", 1, 1);
        isWith("need owns a=0", 0, 1);
        isWith("need owns b=0", 1, 1);
        isWith("make day+owns a", 0, 1);
        isWith("need owns a=0 make coin b+1", 1, 1);
    }

    private void codes() {
        doc.terms("Its CODE: 64 times its number, 16 times a, 4 times b (3 without), t (3 without).");
        LawHoles x = new LawHoles();
        for (int code = 0; code < 768; code++) {
            if (code % 100 == 0) {
                x = law("act aa;act ab make coin b+1;act ac make own a;act ad make own b;");
                Check.statute(x, 1, "act aa make own b;");
            }
            int act = code / 64;
            int a = code / 16 % 4;
            int b = code / 4 % 4;
            int t = code % 4;
            boolean hasOther = act == 1 || act == 3 || act == 6;
            boolean hasThing = act == 2 || act == 3 || act == 6;
            boolean is = (act < 4 || act == 6) && a < 3 && a != b && hasOther == b < 3 && hasThing == t < 3;
            doc.due("CODE " + code, why(x, code), is ? NONE : 30);
            if (is && hasThing) {
                doc.due("OWNER by " + code, x.after(0, 40 + t), hasOther ? b : a);
            } else if (is && hasOther) {
                doc.due("COIN by " + code, x.after(0, b), 1);
            }
        }
    }

    private static LawHoles mixed() {
        LawHoles x = new LawHoles();
        int[] coins = {11, 12, 13};
        for (int p = 0; p < 3; p++) {
            x.coin(p, coins[p]);
        }
        for (int pair = 1; pair < 8; pair++) {
            x.debt(pair / 3, pair % 3, pair);
        }
        x.kin(0, 1, 0, true);
        x.kin(2, 0, 1, true);
        x.kin(1, 2, 1, true);
        x.owner(0, 2);
        x.owner(1, 2);
        x.owner(2, 0);
        x.day(15);
        return x;
    }

    /** A U by all PERSONS and THINGS; want tells its number by a, b and t. */
    private void unit(String text, Number3 want) {
        for (int code = 0; code < 64; code++) {
            int a = code / 16;
            int b = code / 4 % 4;
            int t = code % 4;
            if (a == 3 || b == 3 || t == 3 || a == b) {
                continue;
            }
            LawHoles x = mixed();
            String act = "act ab need coin b=coin b and owns a=owns a make coin a-coin a make coin a+" + text + ";";
            doc.due("statute of " + text, Check.statute(x, 0, act), 1);
            x.put(0, code);
            doc.due(text + " by " + code, x.after(0, a), want.of(a, b, t));
            doc.due(text + " by " + code, x.lawful(0, 3, 0, 0), 1);
        }
    }

    /** A number by a, b and t. */
    private interface Number3 {
        int of(int a, int b, int t);
    }

    private void units() {
        int[] owner = {2, 2, 0};
        int[] many = {1, 0, 2};
        doc.terms("U in a STATE: COIN of P;");
        unit("coin a", (a, b, t) -> 11 + a);
        unit("coin b", (a, b, t) -> 11 + b);
        doc.terms("DEBT of the first P to the second;");
        unit("debt a b", (a, b, t) -> 3 * a + b);
        unit("debt b a", (a, b, t) -> 3 * b + a);
        doc.terms("WED, CHILD (the first of the second) 1 or 0;");
        unit("wed a b", (a, b, t) -> a + b == 1 ? 1 : 0);
        unit("wed b a", (a, b, t) -> a + b == 1 ? 1 : 0);
        unit("child a b", (a, b, t) -> a == 2 && b == 0 || a == 1 && b == 2 ? 1 : 0);
        unit("child b a", (a, b, t) -> b == 2 && a == 0 || b == 1 && a == 2 ? 1 : 0);
        doc.terms("owns 1 if P is OWNER of t, else 0;");
        unit("owns a", (a, b, t) -> owner[t] == a ? 1 : 0);
        unit("owns b", (a, b, t) -> owner[t] == b ? 1 : 0);
        doc.terms("things of how many THINGS P is OWNER;");
        unit("things a", (a, b, t) -> many[a]);
        unit("things b", (a, b, t) -> many[b]);
        doc.terms("the DAY.");
        unit("day", (a, b, t) -> 15);
    }

    private void needs() {
        doc.terms("A CODE is LAWFUL in a STATE, if all needs of its ACT (those of CURES that count, too) are so,");
        LawHoles x = law("act ab need coin a<1 need coin a<2 need coin a<3 need coin a<4 make day+1;act cd make day+1;");
        for (int coin = 0; coin < 6; coin++) {
            x.coin(1, coin);
            doc.due("needs at " + coin, why(x, 31), coin == 0 ? NONE : 0);
            doc.due("others have it", why(x, 15), NONE);
        }
        x = law("act ab need 1=1 need 1=1 need 1=1 need day=0;");
        x.day(1);
        doc.due("the last need", why(x, 15), 3);
        x = law("act ab make day+1;act cd make day+1;");
        doc.due("a CURE", Check.cure(x, 1, "day<1"), 0);
        x.put(0, 79);
        x.put(0, 79);
        doc.due("it counts", x.lawful(0, 3, 1, 0), 1);
        doc.due("it does not count", x.lawful(0, 3, 0, 0), 2);
        x.put(1, 15);
        x.put(1, 15);
        doc.due("it is of another ACT", x.lawful(1, 3, 1, 0), 2);
    }

    /** A number that one ACT changes by 1 up or down, held against its bounds. */
    private void isBound(String make, int code, int what, int most) {
        LawHoles x = law("act up make " + make + "+1;act dn make " + make + "+0-1;");
        for (int at = 0; at <= most; at += most) {
            if (what == 50) {
                x.day(at);
            } else if (what < 3) {
                x.coin(what, at);
            } else {
                x.debt((what - 10) / 3, (what - 10) % 3, at);
            }
            doc.due(make + "+1 at " + at, why(x, code), at == most ? 20 : NONE);
            doc.due(make + " is", x.after(0, what), at == most ? most : 1);
            doc.due(make + "-1 at " + at, why(x, 64 + code), at == 0 ? 20 : NONE);
            doc.due(make + " is", x.after(0, what), at == 0 ? 0 : most - 1);
        }
    }

    private void bounds() {
        doc.terms("and all numbers are in their bounds behind its makes:");
        for (int p = 0; p < 3; p++) {
            int q = (p + 1) % 3;
            isBound("coin a", 16 * p + 15, p, 15);
            isBound("coin b", 16 * p + 4 * q + 3, q, 15);
            isBound("debt a b", 16 * p + 4 * q + 3, 10 + 3 * p + q, 7);
            isBound("debt b a", 16 * p + 4 * q + 3, 10 + 3 * q + p, 7);
            isBound("day", 16 * p + 15, 50, 15);
        }
        LawHoles x = law("act ab make coin a+999 make own a make wed a b;");
        doc.due("far over", why(x, 4), 20);
        doc.due("nothing is made", x.after(0, 0) + x.after(0, 21), 0);
        doc.due("nothing is made", x.after(0, 40), 3);
    }

    private void asOfAhead() {
        doc.terms("all E as of ahead,");
        LawHoles x = law("act ab make day+1 make day+day make coin a+day make own a make coin b+owns a+things a;"
            + "act cd make wed a b make adopt a b make coin a+wed a b+child a b make day+coin a;"
            + "act ef make debt b a+2 make debt a b+debt b a;");
        x.put(0, 4);
        doc.due("as of ahead", x.lawful(0, 3, 0, 0), 1);
        doc.due("DAY", x.after(0, 50), 1);
        doc.due("COIN of a", x.after(0, 0), 0);
        doc.due("COIN of b", x.after(0, 1), 0);
        x.put(0, 64 + 7);
        doc.due("COIN of a", x.after(0, 0), 0);
        x.put(0, 64 + 7);
        doc.due("COIN of a", x.after(0, 0), 2);
        doc.due("DAY", x.after(0, 50), 1);
        x.put(0, 128 + 7);
        doc.due("DEBT of a", x.after(0, 11), 0);
        doc.due("DEBT of b", x.after(0, 13), 2);
        x = law("act swap make coin a+coin b-coin a make coin b+coin a-coin b;");
        x.coin(0, 15);
        x.coin(2, 4);
        x.put(0, 11);
        doc.due("a has what b had", x.after(0, 0), 4);
        doc.due("b has what a had", x.after(0, 2), 15);
    }

    private void oneBehindTheOther() {
        doc.terms("COIN, DEBT and DAY more or less by them one behind the other (just what is left in the end is held against the bounds);");
        justNumbers();
        LawHoles x = law("act ab make coin a-9 make coin a+20 make coin a-8;");
        doc.due("below 0 and over 15 between", why(x, 15), NONE);
        doc.due("3 is left", x.after(0, 0), 3);
        x.coin(0, 12);
        doc.due("15 is left", why(x, 15), NONE);
        doc.due("15 is left", x.after(0, 0), 15);
        x.coin(0, 13);
        doc.due("16 would be left", why(x, 15), 20);
        x = law("act ab make debt a b+9 make debt a b-4 make debt b a-1 make debt b a+1;");
        doc.due("over 7 between, below 0 between", why(x, 7), NONE);
        doc.due("5 is left", x.after(0, 11), 5);
        doc.due("0 is left", x.after(0, 13), 0);
        x.debt(0, 1, 3);
        doc.due("8 would be left", why(x, 7), 20);
        x = law("act ab make day+99 make day+0-90 make day+6;");
        doc.due("over 15 between", why(x, 15), NONE);
        doc.due("15 is left", x.after(0, 50), 15);
        x.day(1);
        doc.due("16 would be left", why(x, 15), 20);
        x = law("act ab make coin a+1 make coin b-1 make coin a+2;");
        doc.due("of another one below 0", why(x, 7), 20);
        x.coin(1, 1);
        doc.due("of each what is left", why(x, 7), NONE);
        doc.due("3 is left", x.after(0, 0), 3);
        x = law("act ab make coin a-1-2 make coin a+5-1-1;");
        doc.due("less by all of E", why(x, 15), NONE);
        doc.due("4 is left", x.after(0, 0), 4);
    }

    /** What a number of a STATE is behind an ACT by a, with b and t. */
    private interface Changed {
        int of(int what, int before, Who who);
    }

    private record Who(int a, int b, int t) { }

    /** One make by all PERSONS and THINGS: it changes what it tells, and nothing else. */
    private void changesJust(String make, Changed changed) {
        for (int code = 0; code < 64; code++) {
            Who who = new Who(code / 16, code / 4 % 4, code % 4);
            if (who.a() == 3 || who.b() == 3 || who.t() == 3 || who.a() == who.b()) {
                continue;
            }
            LawHoles x = mixed();
            Check.statute(x, 0, "act ab need coin b=coin b and owns a=owns a make " + make + ";");
            x.put(1, code);
            for (int what = 0; what <= 50; what++) {
                int before = x.after(0, what);
                int want = before == NONE ? NONE : changed.of(what, before, who);
                doc.due(make + " by " + code + ", number " + what, x.after(1, what), want);
            }
        }
    }

    private static boolean isPair(int what, int place, int p, int q) {
        return what == place + 3 * p + q;
    }

    private void justNumbers() {
        changesJust("coin a+2", (what, before, who) -> what == who.a() ? before + 2 : before);
        changesJust("coin b-3", (what, before, who) -> what == who.b() ? before - 3 : before);
        changesJust("debt a b-1", (what, before, who) -> isPair(what, 10, who.a(), who.b()) ? before - 1 : before);
        changesJust("debt b a-1", (what, before, who) -> isPair(what, 10, who.b(), who.a()) ? before - 1 : before);
        changesJust("day+0-7", (what, before, who) -> what == 50 ? before - 7 : before);
    }

    private void otherMakes() {
        doc.terms("P is OWNER of t, or nobody;");
        changesJust("own a", (what, before, who) -> what == 40 + who.t() ? who.a() : before);
        changesJust("own b", (what, before, who) -> what == 40 + who.t() ? who.b() : before);
        changesJust("own none", (what, before, who) -> what == 40 + who.t() ? 3 : before);
        LawHoles x = law("act aa make own a;act ab make own b;act no make own none;");
        int[] codes = {12 + 1, 64 + 4 + 1, 128 + 12 + 1, 64 + 16 + 8 + 1, 12, 32 + 12 + 2};
        int[] owners = {0, 1, 3, 2, 2, 2};
        for (int i = 0; i < codes.length; i++) {
            x.put(0, codes[i]);
            doc.due("OWNER of 1 behind " + i, x.after(0, 41), owners[i]);
        }
        doc.due("all were LAWFUL", x.lawful(0, 3, 0, 0), codes.length);
        doc.due("OWNER of 0", x.after(0, 40), 0);
        doc.due("OWNER of 2", x.after(0, 42), 2);
        x = law("act ab need coin b=0 make own a make own none;");
        doc.due("nobody, though there is another one", why(x, 4), NONE);
        doc.due("OWNER of 0", x.after(0, 40), 3);
        doc.terms("they are WED;");
        for (String make : new String[] {"wed a b", "wed b a"}) {
            changesJust(make, (what, before, who) ->
                isPair(what, 20, who.a(), who.b()) || isPair(what, 20, who.b(), who.a()) ? 1 : before);
        }
        x = law("act wa make wed a b;act wb make wed b a;act pa make part a b;act pb make part b a;");
        x.put(0, 32 + 3);
        doc.due("both ways", x.after(0, 22) + 2 * x.after(0, 26), 3);
        x.put(0, 64 + 16 + 3);
        doc.due("both ways", x.after(0, 21) + 2 * x.after(0, 23), 3);
        doc.due("nobody else", x.after(0, 25) + 2 * x.after(0, 27), 0);
        x.put(0, 32 + 3);
        doc.due("once more", x.lawful(0, 3, 0, 0), 3);
        doc.terms("are not any more (part);");
        for (String make : new String[] {"part a b", "part b a"}) {
            changesJust(make, (what, before, who) ->
                isPair(what, 20, who.a(), who.b()) || isPair(what, 20, who.b(), who.a()) ? 0 : before);
        }
        x.put(0, 128 + 8 + 3);
        doc.due("not any more", x.after(0, 22) + 2 * x.after(0, 26), 0);
        doc.due("the others still", x.after(0, 21) + 2 * x.after(0, 23), 3);
        x.put(0, 192 + 16 + 3);
        doc.due("not any more", x.after(0, 21) + 2 * x.after(0, 23), 0);
        x.put(0, 192 + 16 + 3);
        doc.due("who are not", x.lawful(0, 3, 0, 0), 6);
        doc.terms("the first is a CHILD of the second.");
        changesJust("adopt a b", (what, before, who) -> isPair(what, 30, who.a(), who.b()) ? 1 : before);
        changesJust("adopt b a", (what, before, who) -> isPair(what, 30, who.b(), who.a()) ? 1 : before);
        x = law("act ab make adopt a b;act ba make adopt b a;");
        x.put(0, 16 + 8 + 3);
        doc.due("a of b", x.after(0, 35) + 2 * x.after(0, 37), 1);
        x.put(0, 64 + 8 + 3);
        doc.due("b of a", x.after(0, 36) + 2 * x.after(0, 32), 1);
        x.put(0, 64 + 16 + 8 + 3);
        doc.due("both", x.after(0, 35) + 2 * x.after(0, 37), 3);
        x.put(0, 64 + 16 + 8 + 3);
        doc.due("who is one", x.lawful(0, 3, 0, 0), 4);
        doc.due("nobody else", x.after(0, 31) + x.after(0, 32) + x.after(0, 33), 0);
    }

    private void actCalls() {
        doc.promise(13, "Of ACT x (by its number) what 0 1 if b stands in it, else 0, 1 1 if a THING does, else 0, 2 needs, 3 makes.");
        LawHoles x = law("act aa need 1=1 need 1=1 need 1=1 need 1=1;"
            + "act ab make debt a b+1 make day+1 make day+1 make day+1 make day+1 make day+1;act ac need owns a=0 make own none;");
        int[][] want = {{0, 0, 4, 0}, {1, 0, 0, 6}, {0, 1, 1, 1}};
        for (int i = 0; i < 3; i++) {
            for (int what = 0; what < 4; what++) {
                doc.due("act(" + i + ", " + what + ")", x.act(i, what), want[i][what]);
            }
        }
        doc.promise(13, "NONE if there is none such, or another what.");
        for (int what = 0; what < 4; what++) {
            for (int i : new int[] {Integer.MIN_VALUE, -1, 3, 5, 6, 11, 12, 18, Integer.MAX_VALUE}) {
                doc.due("act(" + i + ", " + what + ")", x.act(i, what), NONE);
            }
        }
        for (int what : new int[] {Integer.MIN_VALUE, -1, 4, Integer.MAX_VALUE}) {
            doc.due("act(0, " + what + ")", x.act(0, what), NONE);
        }
    }
}
