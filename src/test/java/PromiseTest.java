/** Promises 1 to 26, each by ordinary inputs, the edges that the document names, and wrong inputs. */
public final class PromiseTest {
    private static final int NONE = LawHoles.NONE;
    private static final int SPENT = LawHoles.SPENT;
    private static final String EARN = "act earn need day<3 make coin a+2 make day+1;";
    private static final String SWEAR = "act swear need coin a>1 make debt a b+2;";

    private final Check check = new Check();

    public static void main(String[] args) {
        PromiseTest test = new PromiseTest();
        test.newObject();
        test.coinAndDay();
        test.debts();
        test.kinAndOwners();
        test.tape();
        test.statutes();
        test.statuteFaults();
        test.conditionFaults();
        test.tooManyFaults();
        test.neversAndCures();
        test.rows();
        test.lawful();
        test.bounds();
        test.makes();
        test.units();
        test.curesWithoutOther();
        test.afterPlaces();
        test.holes();
        test.spentHoles();
        test.friends();
        test.only();
        test.metAlike();
        test.gains();
        test.stops();
        test.pastAndThrough();
        test.checkAnew();
        test.check.close();
    }

    private void due(String call, long got, long want) {
        check.due(call, got, want);
    }

    private void due(String call, boolean got, boolean want) {
        check.due(call, got, want);
    }

    /** Promise 1. */
    private void newObject() {
        LawHoles x = new LawHoles();
        due("NONE", NONE, -1);
        due("SPENT", SPENT, -2);
        for (int i = 0; i < 3; i++) {
            due("new coin", x.after(0, i), 0);
            due("new owner", x.after(0, 40 + i), 3);
        }
        for (int kind = 10; kind < 40; kind += 10) {
            for (int pair = 0; pair < 9; pair++) {
                due("new pair " + (kind + pair), x.after(0, kind + pair), pair % 4 == 0 ? NONE : 0);
            }
        }
        due("new day", x.after(0, 50), 0);
        for (int i = -1; i < 13; i++) {
            due("new act", x.act(i, 0), NONE);
        }
        due("new fault", x.fault(0), 0);
        due("new place", x.fault(1), NONE);
        due("new never", x.hole(0, 3, 0, 7, 20), NONE);
        due("new met", x.met(3, 6, true), 1);
        due("new gain", x.gain(0, 3, 6, 0), 0);
        due("new through", x.through(0, 0), NONE);
        due("new tape", x.end(1), false);
        due("new tape is empty", x.end(0), true);
    }

    /** Promises 2 and 6. */
    private void coinAndDay() {
        LawHoles x = new LawHoles();
        for (int p = 0; p < 3; p++) {
            due("coin", x.coin(p, 5 * (p + 1)), true);
            due("coin is", x.after(0, p), 5 * (p + 1));
        }
        due("coin 16", x.coin(0, 16), false);
        due("coin -1", x.coin(0, -1), false);
        due("coin of 3", x.coin(3, 1), false);
        due("coin of -1", x.coin(-1, 1), false);
        due("coin of most", x.coin(Integer.MAX_VALUE, Integer.MIN_VALUE), false);
        due("coin stays", x.after(0, 0), 5);
        due("coin 0", x.coin(0, 0), true);
        due("coin is 0", x.after(0, 0), 0);
        due("day 15", x.day(15), true);
        due("day 16", x.day(16), false);
        due("day -1", x.day(-1), false);
        due("day is 15", x.after(0, 50), 15);
    }

    /** Promise 3. */
    private void debts() {
        LawHoles x = new LawHoles();
        due("debt", x.debt(0, 1, 7), true);
        due("debt back", x.debt(2, 0, 3), true);
        due("debt is", x.after(0, 11), 7);
        due("debt is one way", x.after(0, 13), 0);
        due("debt 2 to 0", x.after(0, 16), 3);
        due("debt 8", x.debt(0, 1, 8), false);
        due("debt -1", x.debt(0, 1, -1), false);
        due("debt to oneself", x.debt(1, 1, 0), false);
        due("debt of 3", x.debt(3, 1, 0), false);
        due("debt to 3", x.debt(1, 3, 0), false);
        due("debt of -1", x.debt(-1, 1, 0), false);
        due("debt to -1", x.debt(1, -1, 0), false);
        due("debt stays", x.after(0, 11), 7);
    }

    /** Promises 4 and 5. */
    private void kinAndOwners() {
        LawHoles x = new LawHoles();
        due("wed", x.kin(2, 0, 0, true), true);
        due("wed 2 0", x.after(0, 26), 1);
        due("wed 0 2", x.after(0, 22), 1);
        due("wed 0 1", x.after(0, 21), 0);
        due("not wed", x.kin(0, 2, 0, false), true);
        due("not wed 2 0", x.after(0, 26), 0);
        due("child", x.kin(1, 2, 1, true), true);
        due("child 1 2", x.after(0, 35), 1);
        due("child 2 1", x.after(0, 37), 0);
        due("child no more", x.kin(1, 2, 1, false), true);
        due("child 1 2 no more", x.after(0, 35), 0);
        due("kin of oneself", x.kin(1, 1, 0, true), false);
        due("kin of 3", x.kin(3, 1, 0, true), false);
        due("kin with -1", x.kin(0, -1, 1, true), false);
        due("kin 2", x.kin(0, 1, 2, true), false);
        due("kin -1", x.kin(0, 1, -1, true), false);
        due("owner", x.owner(2, 1), true);
        due("owner is", x.after(0, 42), 1);
        due("owner nobody", x.owner(2, 3), true);
        due("owner is nobody", x.after(0, 42), 3);
        due("owner 4", x.owner(2, 4), false);
        due("owner -1", x.owner(2, -1), false);
        due("thing 3", x.owner(3, 0), false);
        due("thing -1", x.owner(-1, 0), false);
    }

    /** Promises 7 and 8. */
    private void tape() {
        LawHoles x = new LawHoles();
        for (int i = 1; i <= 35; i++) {
            due("feed", x.feed(-1, 0, 1, 2, 3), 20 * i);
        }
        due("feed over 700", x.feed(0, 0, 0, 0, 0), NONE);
        due("end 701", x.end(701), false);
        due("end 700", x.end(700), true);
        due("end -1", x.end(-1), false);
        due("end 681", x.end(681), true);
        due("feed over 700 by one", x.feed(0, 0, 0, 0, 0), NONE);
        due("end 682", x.end(682), false);
        due("end 680", x.end(680), true);
        due("feed to 700", x.feed(0, 0, 0, 0, 0), 700);
        due("end 0", x.end(0), true);
        // "day=day or day=day " with its highest bytes first
        due("feed", x.feed(0x6461793d, 0x64617920, 0x6f722064, 0x61793d64, 0x6179ff20), 20);
        due("a byte of 255 can't stand", x.never(), NONE);
        due("at its place", x.fault(1), 18);
        due("empty then", x.end(1), false);
        due("feed", x.feed(0x6461793d, 0x64617920, 0x6f722064, 0x61793d64, 0x61792020), 20);
        due("never", x.never(), 0);
        due("empty then", x.feed(0, 0, 0, 0, 0), 20);
        due("no such statute", x.statute(2), NONE);
        due("empty then", x.end(1), false);
    }

    /** Promises 9 and 13. */
    private void statutes() {
        LawHoles x = new LawHoles();
        String text = "act lend need coin a>2 make debt b a+4 need 1=1;\nact found make own a;act leave make own none;"
            + "act look need owns a=1 or things a=2;act vow make wed b a;act idle;";
        due("statute", Check.statute(x, 1, text), 6);
        due("fault", x.fault(0), 0);
        int[][] told = {{1, 0, 2, 1}, {0, 1, 0, 1}, {0, 1, 0, 1}, {0, 1, 1, 0}, {1, 0, 0, 1}, {0, 0, 0, 0}};
        for (int i = 0; i < 6; i++) {
            for (int what = 0; what < 4; what++) {
                due("act " + i + " " + what, x.act(6 + i, what), told[i][what]);
            }
            due("act what -1", x.act(6 + i, -1), NONE);
            due("act what 4", x.act(6 + i, 4), NONE);
            due("act of the other", x.act(i, 0), NONE);
        }
        due("act 12", x.act(12, 0), NONE);
        due("act -1", x.act(-1, 0), NONE);
        due("a fault", Check.statute(x, 1, "act one; act"), NONE);
        due("it stays", x.act(11, 3), 0);
        due("no such statute", Check.statute(x, 2, "act"), NONE);
        due("tells 0", x.fault(0), 0);
        due("no such statute", Check.statute(x, -1, "act"), NONE);
        due("tells no place", x.fault(1), NONE);
        due("a shorter one", Check.statute(x, 1, "act things2"), NONE);
        due("a shorter one", Check.statute(x, 1, "act one;"), 1);
        due("the rest is gone", x.act(7, 0), NONE);
        due("empty", Check.statute(x, 1, ""), 0);
        due("all is gone", x.act(6, 0), NONE);
        due("blanks alone", Check.statute(x, 0, " \n "), 0);
        due("the same name in both", Check.statute(x, 0, "act one;"), 1);
        due("the same name in both", Check.statute(x, 1, "act one;"), 1);
        due("no blanks", Check.statute(x, 0, "act\none\nneed\ncoin\na>1and\nnot(day=1)make\nday+1*2;act two;"), 2);
        due("names of 2 and 8", Check.statute(x, 0, "act ab;act abcdefgh;"), 2);
        due("names that end or begin alike", Check.statute(x, 0, "act za;act az;act zzaz;act zz;act actact;act coins;"), 6);
        due("numbers of 3", Check.statute(x, 0, "act ab need 000<999;"), 1);
    }

    /** Promise 12: what can't stand there, and names that are there. */
    private void statuteFaults() {
        check.faultOfStatute("act", 1, 3);
        check.faultOfStatute("act  \n", 1, 6);
        check.faultOfStatute("acts", 1, 0);
        check.faultOfStatute("  x", 1, 2);
        check.faultOfStatute("act a;", 1, 4);
        check.faultOfStatute("act t;", 1, 4);
        check.faultOfStatute("act coin;", 1, 4);
        check.faultOfStatute("act or;", 1, 4);
        check.faultOfStatute("act abcdefghi;", 1, 4);
        check.faultOfStatute("act ab3;", 1, 6);
        check.faultOfStatute("act Ab;", 1, 4);
        check.faultOfStatute("act\tab;", 1, 3);
        check.faultOfStatute("act ab", 1, 6);
        check.faultOfStatute("act ab act cd;", 1, 7);
        check.faultOfStatute("act ab;;", 1, 7);
        check.faultOfStatute("act ab; need 1=1;", 1, 8);
        check.faultOfStatute("act ab need;", 1, 11);
        check.faultOfStatute("act ab make;", 1, 11);
        check.faultOfStatute("act ab make child a b;", 1, 12);
        check.faultOfStatute("act ab make coin+1;", 1, 16);
        check.faultOfStatute("act ab make coin a;", 1, 18);
        check.faultOfStatute("act ab make coin a b+1;", 1, 19);
        check.faultOfStatute("act ab make debt a+1;", 1, 18);
        check.faultOfStatute("act ab make debt b b+1;", 1, 19);
        check.faultOfStatute("act ab make debt a b=1;", 1, 20);
        check.faultOfStatute("act ab make own;", 1, 15);
        check.faultOfStatute("act ab make own a b;", 1, 18);
        check.faultOfStatute("act ab make own none b;", 1, 21);
        check.faultOfStatute("act ab make wed a a;", 1, 18);
        check.faultOfStatute("act ab make part b;", 1, 18);
        check.faultOfStatute("act ab make adopt none;", 1, 18);
        check.faultOfStatute("act ab make day-1;", 1, 15);
        check.faultOfStatute("act ab make day+;", 1, 16);
        check.faultOfStatute("act ab make day+1=1;", 1, 17);
        check.faultOfStatute("act ab make day+(1);", 1, 16);
        check.faultOfStatute("act ab make day+1 and 1=1;", 1, 18);
        check.faultOfStatute("act ab need 1=1 need 1=;", 1, 23);
        check.faultOfStatute("act ab;act ab;", 2, 11);
        check.faultOfStatute("act ab;act cd;act ab x", 2, 18);
        check.faultOfStatute("act ab;act cd x;act ab", 1, 14);
        LawHoles x = new LawHoles();
        due("fault what 2", x.fault(2), NONE);
        due("fault what -1", x.fault(-1), NONE);
        due("a fault", Check.never(x, "1"), NONE);
        due("is told", x.fault(0), 1);
        due("until the next", Check.cure(x, 12, "1"), NONE);
        due("is told", x.fault(0), 0);
        due("without a place", x.fault(1), NONE);
    }

    /** Promise 12: the conditions. */
    private void conditionFaults() {
        check.faultOfNever("", 1, 0);
        check.faultOfNever("  ", 1, 2);
        check.faultOfNever("coin a>", 1, 7);
        check.faultOfNever("coin a>1;", 1, 8);
        check.faultOfNever("coin a>1 need", 1, 9);
        check.faultOfNever("1=1=1", 1, 3);
        check.faultOfNever("1", 1, 1);
        check.faultOfNever("1 and 1=1", 1, 2);
        check.faultOfNever("(1)=1", 1, 2);
        check.faultOfNever("(1=1", 1, 4);
        check.faultOfNever("1=1)", 1, 3);
        check.faultOfNever("1=(1)", 1, 2);
        check.faultOfNever("not", 1, 3);
        check.faultOfNever("not and", 1, 4);
        check.faultOfNever("()", 1, 1);
        check.faultOfNever("(1=1) 2", 1, 6);
        check.faultOfNever("(1=1)+1=1", 1, 5);
        check.faultOfNever("1=1 or", 1, 6);
        check.faultOfNever("1=1 and or", 1, 8);
        check.faultOfNever("1+=1", 1, 2);
        check.faultOfNever("-1=1", 1, 0);
        check.faultOfNever("1*-1=1", 1, 2);
        check.faultOfNever("1234=1", 1, 0);
        check.faultOfNever("0=0001", 1, 2);
        check.faultOfNever("1 2=1", 1, 2);
        check.faultOfNever("coin=1", 1, 4);
        check.faultOfNever("coin c=1", 1, 5);
        check.faultOfNever("coin none=1", 1, 5);
        check.faultOfNever("coina=1", 1, 0);
        check.faultOfNever("debt a a=1", 1, 7);
        check.faultOfNever("child b=1", 1, 7);
        check.faultOfNever("wed b b=1", 1, 6);
        check.faultOfNever("owns=1", 1, 4);
        check.faultOfNever("own a=1", 1, 0);
        check.faultOfNever("things a b=1", 1, 9);
        check.faultOfNever("day a=1", 1, 4);
        check.faultOfNever("day!1", 1, 3);
        check.faultOfNever("part a b=1", 1, 0);
        longTexts();
        LawHoles x = new LawHoles();
        due("words and numbers side by side", Check.never(x, "coin a>1and not 2<day or(day=3)"), 0);
    }

    /** As many tokens as bytes, up to 700; and what is cut off does not count. */
    private void longTexts() {
        LawHoles x = new LawHoles();
        String ones = "1+".repeat(348);
        due("699 tokens", Check.never(x, ones + "1=1"), 0);
        due("not so", x.hole(0, 3, 0, 7, 0), NONE);
        due("700 tokens", Check.never(x, ones + "1=1+"), NONE);
        due("at the end", x.fault(1), 700);
        due("700 tokens", Check.never(x, ones + "1=1;"), NONE);
        due("at the last", x.fault(1), 699);
        due("700 bytes", Check.never(x, ones + "1=34"), 1);
        due("so", Check.never(x, "1*".repeat(347) + "3*1=03"), 2);
        due("so", x.hole(2, 3, 0, 7, 0), 0);
        due("sum", Check.never(x, "1+".repeat(300) + "1=301 and " + "1*".repeat(40) + "1=1"), 3);
        due("so", x.hole(3, 3, 0, 7, 0), 0);
        due("feed", x.feed(0x6461793d, 0x31323334, 0x35202020, 0x20202020, 0x20202020), 20);
        due("day=1", x.end(5), true);
        due("never", x.never(), 4);
        x.day(1);
        due("what was cut off does not count", x.hole(4, 3, 0, 7, 0), 0);
        due("feed", x.feed(0x6461793d, 0x6461797a, 0x7a202020, 0x20202020, 0x20202020), 20);
        due("day=day", x.end(7), true);
        due("never", x.never(), 5);
        due("what was cut off does not count", x.hole(5, 3, 0, 7, 0), 0);
    }

    /** Promise 12: the FAULT 3. */
    private void tooManyFaults() {
        check.faultOfStatute("act aa;act ab;act ac;act ad;act ae;act af;act aa;", 3, 42);
        check.faultOfStatute("act aa;act ab;act ac;act ad;act ae;act af;act", 3, 42);
        check.faultOfStatute("act aa;act ab;act ac;act ad;act ae;act af act", 1, 42);
        check.faultOfStatute("act xx need 1=1 need 1=1 need 1=1 need 1=1 need 1=1;", 3, 43);
        check.faultOfStatute("act xx need 1=1 need 1=1 need 1=1 need 1=1 make own a need", 3, 54);
        check.faultOfStatute("act x need 1=1 need 1=1 need 1=1 need 1=1 need", 1, 4);
        String six = " make own a make own a make own a make own a make own a make own a";
        check.faultOfStatute("act xx" + six + " make own a;", 3, 6 + six.length() + 1);
        check.faultOfStatute("act xx" + six + " make", 3, 6 + six.length() + 1);
        check.faultOfStatute("act xx" + six + " own", 1, 6 + six.length() + 1);
        String four = " need 1=1 need 1=1 need 1=1 need 1=1";
        LawHoles x = new LawHoles();
        due("as many as can be", Check.statute(x, 0, "act xx" + four + six + ";act yy" + six + four + ";"), 2);
        due("needs", x.act(1, 2), 4);
        due("makes", x.act(1, 3), 6);
        check.faultOfNever("((((((((( 1=1", 3, 8);
        check.faultOfNever("(((((((( not 1=1", 3, 9);
        check.faultOfNever("not not not not not not not not not", 3, 32);
        check.faultOfNever("not (not (not (not (not", 3, 20);
        check.faultOfNever("((((((((1=1)))))))) and (((((((((1=1", 3, 32);
        check.faultOfNever("((((((((1=1 and (", 3, 16);
        check.faultOfNever("((((((((1=(", 1, 10);
        due("8 open", Check.never(x, "((((((((1=1))))))))"), 0);
        due("8 open, and 8 again", Check.never(x, "not not not not not not not not 1=1 and not (not (not (not (1=1))))"), 1);
        due("closed ones are not open", Check.never(x, "not 1=1 or not 1=1 or not 1=1 or not 1=1 or not 1=1 or not 1=1"
            + " or not 1=1 or not 1=1 or not 1=1 or (1=1) and (1=1)"), 2);
        check.faultOfStatute("act xx need (((((((((1=1", 3, 20);
    }

    /** Promises 10 and 11. */
    private void neversAndCures() {
        LawHoles x = new LawHoles();
        for (int i = 0; i < 6; i++) {
            due("never", Check.never(x, "day=" + i), i);
            due("a fault is none", i < 5 ? Check.never(x, "day") : NONE, NONE);
        }
        due("a seventh", Check.never(x, "day"), NONE);
        due("tells 0", x.fault(0), 0);
        due("tells no place", x.fault(1), NONE);
        due("empty then", x.end(1), false);
        for (int i = 0; i < 5; i++) {
            due("cure", Check.cure(x, 3 * i - (i == 4 ? 1 : 0), "day=" + i), i);
            due("a fault is none", i < 4 ? Check.cure(x, 0, "day") : NONE, NONE);
            due("no such act", i < 4 ? Check.cure(x, 12, "day") : NONE, NONE);
            due("tells 0", x.fault(0), 0);
            due("no such act", i < 4 ? Check.cure(x, -1, "day=1") : NONE, NONE);
        }
        due("a sixth", Check.cure(x, 0, "day"), NONE);
        due("tells 0", x.fault(0), 0);
        due("empty then", x.end(1), false);
        for (int i = 0; i < 6; i++) {
            x.day(i);
            for (int k = 0; k < 6; k++) {
                due("is never " + k, x.hole(k, 3, 0, 7, 0), k == i ? 0 : NONE);
            }
        }
    }

    /** Promises 14 to 16. */
    private void rows() {
        LawHoles x = new LawHoles();
        for (int i = 1; i <= 12; i++) {
            due("put", x.put(5, i == 1 ? 0 : 767), i);
        }
        due("a 13th", x.put(5, 0), NONE);
        due("put -1", x.put(4, -1), NONE);
        due("put 768", x.put(4, 768), NONE);
        due("row 6", x.put(6, 0), NONE);
        due("row -1", x.put(-1, 0), NONE);
        due("rows are apart", x.put(4, 1), 1);
        due("honest", x.honest(5, true), true);
        due("is so", x.honest(5, true), false);
        due("clear", x.clear(5), true);
        due("not honest then", x.honest(5, false), false);
        due("empty then", x.put(5, 0), 1);
        due("honest not", x.honest(4, false), false);
        due("honest", x.honest(4, true), true);
        due("honest not", x.honest(4, false), true);
        due("honest 6", x.honest(6, true), false);
        due("honest -1", x.honest(-1, false), false);
        due("clear 6", x.clear(6), false);
        due("clear -1", x.clear(-1), false);
        due("clear what is empty", x.clear(0), true);
    }

    /** Promise 17. */
    private void lawful() {
        LawHoles x = new LawHoles();
        Check.statute(x, 0, "act give need coin a>0 need day<9 need things a=0 need wed a b=0 make coin a-1 make coin b+1;"
            + "act hand need owns a=1 make own b;act wait make day+1;");
        Check.statute(x, 1, "act earn make coin a+5;");
        due("empty row", x.lawful(0, 3, 31, 0), 0);
        due("all are", x.lawful(0, 3, 31, 1), NONE);
        x.put(0, 384 + 15);
        x.put(0, 7);
        x.put(0, 7);
        due("how many", x.lawful(0, 3, 0, 0), 3);
        due("all are", x.lawful(0, 3, 0, 1), NONE);
        due("laws 1", x.lawful(0, 1, 0, 0), 0);
        due("is none by laws 1", x.lawful(0, 1, 0, 1), 30);
        due("laws 2", x.lawful(0, 2, 0, 0), 1);
        due("is none by laws 2", x.lawful(0, 2, 0, 1), 30);
        x.put(1, 7);
        due("need 0", x.lawful(1, 3, 0, 1), 0);
        x.coin(0, 1);
        x.day(9);
        due("need 1", x.lawful(1, 3, 0, 1), 1);
        x.day(8);
        x.owner(2, 0);
        due("need 2", x.lawful(1, 3, 0, 1), 2);
        x.owner(2, 1);
        x.kin(1, 0, 0, true);
        due("need 3", x.lawful(1, 3, 0, 1), 3);
        x.kin(0, 1, 0, false);
        due("no need", x.lawful(1, 3, 0, 1), NONE);
        x.coin(1, 15);
        due("bounds", x.lawful(1, 3, 0, 1), 20);
        due("not LAWFUL", x.lawful(1, 3, 0, 0), 0);
        due("cure", Check.cure(x, 1, "0=1"), 0);
        due("cure", Check.cure(x, 0, "coin b<9"), 1);
        due("cure", Check.cure(x, 0, "0=1"), 2);
        due("cure of another act", x.lawful(1, 3, 1, 1), 20);
        due("cure ahead of bounds", x.lawful(1, 3, 2, 1), 11);
        due("the first cure", x.lawful(1, 3, 6, 1), 11);
        due("another cure", x.lawful(1, 3, 4, 1), 12);
        due("cures that are not there", x.lawful(1, 3, 24, 1), 20);
        x.coin(0, 0);
        due("need ahead of cure", x.lawful(1, 3, 6, 1), 0);
        int[] none = {3, 0, 15, 7 + 48, 4 + 3, 64 + 4 + 3, 64 + 12, 64 + 48 + 4, 128, 128 + 3, 128 + 12, 128 + 63, 192 + 15, 448 + 15, 767};
        for (int code : none) {
            x.clear(2);
            x.put(2, code);
            due("is one of " + code, x.lawful(2, 3, 0, 1), code == 7 ? 0 : 30);
        }
        due("row 6", x.lawful(6, 3, 0, 0), NONE);
        due("row -1", x.lawful(-1, 3, 0, 0), NONE);
        due("laws 0", x.lawful(0, 0, 0, 0), NONE);
        due("laws 4", x.lawful(0, 4, 0, 0), NONE);
        due("cures 32", x.lawful(0, 3, 32, 0), NONE);
        due("cures -1", x.lawful(0, 3, -1, 0), NONE);
        due("what 2", x.lawful(0, 3, 0, 2), NONE);
        due("what -1", x.lawful(0, 3, 0, -1), NONE);
        due("an act that is no more", Check.statute(x, 1, ""), 0);
        due("is none", x.lawful(0, 3, 0, 1), 30);
    }

    private static LawHoles withRow(String statute, int code) {
        LawHoles x = new LawHoles();
        Check.statute(x, 0, statute);
        x.put(0, code);
        return x;
    }

    /** Promises 17 and 18: just what is left in the end is held against the bounds; ints wrap. */
    private void bounds() {
        LawHoles x = withRow("act ab make coin a-9 make coin a+20 make day+3;", 15);
        due("below 0 between", x.lawful(0, 3, 0, 0), 1);
        due("coin", x.after(0, 0), 11);
        due("day", x.after(0, 50), 3);
        x.coin(0, 5);
        due("16", x.lawful(0, 3, 0, 1), 20);
        due("nothing is made", x.after(0, 50), 0);
        x = withRow("act ab make debt a b+8 make debt a b-1 make debt b a+2;", 7);
        due("8 between", x.lawful(0, 3, 0, 0), 1);
        due("debt", x.after(0, 11), 7);
        due("debt back", x.after(0, 13), 2);
        x.debt(0, 1, 1);
        due("debt 8", x.lawful(0, 3, 0, 1), 20);
        x = withRow("act ab make debt a b-1;", 7);
        due("debt -1", x.lawful(0, 3, 0, 1), 20);
        x = withRow("act ab make coin a-1;", 15);
        due("coin -1", x.lawful(0, 3, 0, 1), 20);
        x = withRow("act ab make day+day+1;", 15);
        x.day(7);
        due("day 15", x.after(0, 50), 15);
        x.day(8);
        due("day 17", x.lawful(0, 3, 0, 1), 20);
        // 2 to the 31 twice is 0
        x = withRow("act ab make coin a+256*256*256*128 make coin a+256*256*256*128+4;", 15);
        due("wraps", x.lawful(0, 3, 0, 0), 1);
        due("wrapped", x.after(0, 0), 4);
        x = withRow("act ab make coin a-256*256*256*256-1+2 make coin a+2;", 15);
        due("less by all of E", x.after(0, 0), 1);
        x = withRow("act ab need 256*256*256*128<0 and 0-1-256*256*256*128>0 make coin a+1;", 15);
        due("B wraps too", x.after(0, 0), 1);
        x = withRow("act ab need 1+2*3=7 need 10-2-3=5 need 2*3*4-20+1*1=5 make coin a+1;", 15);
        due("* ahead of + and -, from the left", x.after(0, 0), 1);
        x = withRow("act ab need 1=2 and 1=2 or 1=1 need not 1=2 and 1=1 need not (1=1 and 1=2) and not not 1=1 make coin a+1;", 15);
        due("not ahead of and, and ahead of or", x.after(0, 0), 1);
        x = withRow("act ab need 1=1 or 1=1 and 1=2 need (1=2 or 1=1) and 1=1 make coin a+1;", 15);
        due("and ahead of or", x.after(0, 0), 1);
        x = withRow("act ab need (1=1 or 1=1) and 1=2 make coin a+1;", 15);
        due("( ahead of and", x.lawful(0, 3, 0, 1), 0);
    }

    /** Promises 17 and 18: what makes make, with all E as of ahead. */
    private void makes() {
        LawHoles x = withRow("act ab make coin a-coin a make coin b+coin a make coin a+coin b;", 16 + 8 + 3);
        x.coin(1, 4);
        x.coin(2, 6);
        due("a has what b had", x.after(0, 1), 6);
        due("b has both", x.after(0, 2), 10);
        x = withRow("act ab make own a make own b;act cd make own b make own none;", 4);
        due("own b behind own a", x.after(0, 40), 1);
        x.put(0, 64 + 4);
        due("own none behind own b", x.after(0, 40), 3);
        x.put(1, 32 + 4 + 2);
        due("thing 2", x.after(1, 42), 1);
        due("no other thing", x.after(1, 40), 3);
        x = withRow("act ab make wed a b make adopt b a;act cd make part b a;", 8 + 3);
        due("wed", x.after(0, 22) + x.after(0, 26), 2);
        due("child of the first", x.after(0, 36), 1);
        due("not the other way", x.after(0, 32), 0);
        due("no other ones", x.after(0, 21) + x.after(0, 25) + x.after(0, 31), 0);
        x.put(0, 64 + 32 + 3);
        due("part", x.lawful(0, 3, 0, 0), 2);
        due("parted", x.after(0, 22) + x.after(0, 26), 0);
        due("a child still", x.after(0, 36), 1);
        x = withRow("act ab make wed a b make part a b;", 7);
        due("part behind wed", x.after(0, 21), 0);
        x = withRow("act ab make wed b a make coin a-1 make own a;", 4);
        due("bounds undo all", x.after(0, 21), 0);
        due("nothing is owned", x.after(0, 40), 3);
    }

    private void unit(LawHoles x, String text, int code, int want) {
        Check.statute(x, 0, "act ab need " + text + "=" + want + " need coin b=coin b and owns a=owns a;");
        x.clear(0);
        x.put(0, code);
        due(text + " by " + code, x.lawful(0, 1, 0, 0), 1);
        due(text + " by " + code + " why", x.lawful(0, 1, 0, 1), NONE);
    }

    /** Promise 17: U in a STATE. */
    private void units() {
        LawHoles x = new LawHoles();
        x.coin(0, 3);
        x.coin(1, 4);
        x.coin(2, 5);
        x.debt(0, 1, 1);
        x.debt(1, 0, 2);
        x.debt(2, 1, 3);
        x.kin(1, 2, 0, true);
        x.kin(0, 2, 1, true);
        x.owner(0, 2);
        x.owner(2, 2);
        x.owner(1, 0);
        x.day(9);
        unit(x, "coin a", 16 + 8, 4);
        unit(x, "coin b", 16 + 8, 5);
        unit(x, "debt a b", 4, 1);
        unit(x, "debt b a", 4, 2);
        unit(x, "debt a b", 32 + 4, 3);
        unit(x, "debt b a", 32 + 4, 0);
        unit(x, "wed a b", 32 + 4, 1);
        unit(x, "wed b a", 32 + 4, 1);
        unit(x, "wed a b", 4, 0);
        unit(x, "child a b", 8, 1);
        unit(x, "child b a", 8, 0);
        unit(x, "child b a", 32, 1);
        unit(x, "owns a", 32, 1);
        unit(x, "owns b", 8, 1);
        unit(x, "owns a", 32 + 1, 0);
        unit(x, "owns b", 32 + 1, 1);
        unit(x, "things a", 32 + 1, 2);
        unit(x, "things b", 32 + 1, 1);
        unit(x, "things b", 32 + 4 + 1, 0);
        unit(x, "day", 32 + 4 + 1, 9);
        unit(x, "012", 32 + 4 + 1, 12);
    }

    /** Promises 11 and 17: where b or t has none, it is 3, and all of U with it is 0. */
    private void curesWithoutOther() {
        String[] zero = {"coin b=0", "debt a b=0", "debt b a=0", "wed a b=0", "wed b a=0", "child a b=0", "child b a=0",
            "owns a=0", "owns b=0", "things b=0"};
        for (String text : zero) {
            LawHoles x = withRow("act ab make day+1;", 15);
            for (int p = 0; p < 3; p++) {
                x.coin(p, 7);
                x.owner(p, p == 0 ? 3 : 0);
                for (int q = 0; q < 3; q++) {
                    x.debt(p, q, 3);
                    x.kin(p, q, 0, true);
                    x.kin(p, q, 1, true);
                }
            }
            due("cure", Check.cure(x, 0, text), 0);
            due(text, x.lawful(0, 3, 1, 1), NONE);
            due("an act does as it did", x.act(0, 0) + x.act(0, 1), 0);
        }
        LawHoles x = withRow("act ab make own b;", 4);
        Check.cure(x, 0, "owns b=0 and things b=0 and coin b=2");
        x.coin(1, 2);
        due("b where it has one", x.lawful(0, 3, 1, 1), NONE);
        x.owner(0, 1);
        due("t where it has one", x.lawful(0, 3, 1, 1), 10);
        x = withRow("act ab make own a;", 12);
        due("cure", Check.cure(x, 0, "owns a=1 or owns b=1 or things b=1"), 0);
        due("nobody owns nothing", x.lawful(0, 3, 1, 1), 10);
        x.owner(0, 0);
        due("a owns t", x.lawful(0, 3, 1, 1), NONE);
    }

    /** Promise 18. */
    private void afterPlaces() {
        LawHoles x = new LawHoles();
        for (int what = -3; what < 120; what++) {
            boolean pair = what >= 10 && what < 40 && what % 10 < 9 && what % 10 % 4 != 0;
            boolean is = what >= 0 && what < 3 || pair || what >= 40 && what < 43 || what == 50;
            due("after what " + what, x.after(0, what) >= 0, is);
        }
        due("row 6", x.after(6, 0), NONE);
        due("row -1", x.after(-1, 0), NONE);
        Check.statute(x, 0, "act ab make coin a+1;");
        Check.statute(x, 1, "act ab make coin a+2;");
        Check.cure(x, 0, "0=1");
        x.put(3, 15);
        x.put(3, 384 + 15);
        x.put(3, 767);
        x.put(3, 15);
        due("both, without cures, as far as LAWFUL", x.after(3, 0), 3);
    }

    private static LawHoles earners() {
        LawHoles x = new LawHoles();
        Check.statute(x, 0, EARN);
        Check.statute(x, 1, SWEAR);
        Check.never(x, "coin a>3");
        Check.never(x, "coin a>2 and coin b>1");
        Check.never(x, "debt a b>1");
        Check.never(x, "debt a b>1 and debt b a>1");
        return x;
    }

    /** Promise 19. */
    private void holes() {
        LawHoles x = earners();
        due("how many", x.hole(2, 3, 3, 7, 0), 2);
        due("code 0", x.hole(2, 3, 3, 7, 1), 15);
        due("code 1", x.hole(2, 3, 3, 7, 2), 391);
        due("no code 2", x.hole(2, 3, 3, 7, 3), NONE);
        due("met by then", x.hole(2, 3, 3, 7, 20), 8);
        due("another what", x.hole(2, 3, 3, 7, 21), NONE);
        due("another what", x.hole(2, 3, 3, 7, -1), NONE);
        due("another what", x.hole(2, 3, 3, 7, Integer.MIN_VALUE), NONE);
        due("by 0 and 2", x.hole(2, 3, 3, 5, 2), 395);
        due("by 1 alone", x.hole(0, 1, 3, 2, 1), 31);
        due("1 and 2", x.hole(1, 1, 3, 6, 3), 47);
        due("by one alone there is no b", x.hole(2, 3, 6, 1, 0), NONE);
        due("all that is met", x.hole(2, 3, 6, 1, 20), 4);
        due("up to 1", x.hole(2, 3, 1, 7, 0), NONE);
        due("up to 2", x.hole(2, 3, 2, 7, 0), 2);
        due("up to 0", x.hole(2, 3, 0, 7, 20), 1);
        due("never 4", x.hole(4, 3, 3, 7, 20), NONE);
        due("never -1", x.hole(-1, 3, 3, 7, 20), NONE);
        due("laws 0", x.hole(0, 0, 3, 7, 20), NONE);
        due("laws 4", x.hole(0, 4, 3, 7, 20), NONE);
        due("n 7", x.hole(0, 3, 7, 7, 20), NONE);
        due("n -1", x.hole(0, 3, -1, 7, 20), NONE);
        due("persons 0", x.hole(0, 3, 3, 0, 20), NONE);
        due("persons 8", x.hole(0, 3, 3, 8, 20), NONE);
        Check.cure(x, 6, "0=1");
        due("without cures", x.hole(2, 3, 3, 7, 0), 2);
        x = new LawHoles();
        Check.statute(x, 0, "act ab make own a make day+1;act cd make own b make coin b+1;");
        Check.never(x, "things a=3");
        Check.never(x, "owns b=1 and not day=0");
        Check.never(x, "things a=2 and coin a=2");
        due("three things", x.hole(0, 1, 6, 7, 0), 3);
        int[] codes = {12, 13, 14};
        for (int i = 0; i < 3; i++) {
            due("the least codes first", x.hole(0, 1, 6, 7, 1 + i), codes[i]);
        }
        due("some b, some t", x.hole(1, 1, 6, 7, 1), 12);
        due("met by then", x.hole(1, 1, 6, 7, 20), 2);
        due("least codes", x.hole(2, 1, 6, 7, 1), 68);
        due("least codes", x.hole(2, 1, 6, 7, 2), 69);
    }

    /** Promise 19: the 401st STATE. */
    private void spentHoles() {
        LawHoles x = new LawHoles();
        Check.statute(x, 0, "act ab make coin a+1;act cd make debt a b+1;");
        Check.never(x, "coin a>3");
        Check.never(x, "coin a>4");
        due("ahead of the 401st", x.hole(0, 1, 5, 7, 0), 4);
        due("ahead of the 401st", x.hole(0, 1, 5, 7, 20), 221);
        for (int what = 0; what < 20; what++) {
            due("SPENT", x.hole(1, 1, 5, 7, what), SPENT);
        }
        due("but for 20", x.hole(1, 1, 5, 7, 20), 400);
        due("another what", x.hole(1, 1, 5, 7, 21), NONE);
        due("less persons", x.hole(1, 1, 5, 1, 0), 5);
        for (int most = 399; most <= 401; most++) {
            x = Counter.of(most, "coin a>99");
            due("met of " + most, x.met(1, 6, false), most > 400 ? SPENT : most);
            due("in all of " + most, x.hole(0, 1, 6, 7, 20), Math.min(most, 400));
            due("no hole of " + most, x.hole(0, 1, 6, 7, 0), most > 400 ? SPENT : NONE);
            due("gain of " + most, x.gain(2, 1, 6, 0), most > 400 ? -101 : 0);
            due("stop of " + most, x.stop(0, 6, 0), most > 400 ? NONE : 0);
        }
    }

    /** Promise 20. */
    private void friends() {
        LawHoles x = earners();
        due("one", x.friends(0, 1, 3), 1);
        due("two", x.friends(1, 3, 3), 3);
        due("none", x.friends(0, 2, 3), NONE);
        due("up to 1", x.friends(0, 1, 1), NONE);
        due("both ways", x.friends(3, 3, 4), 3);
        x.kin(1, 2, 1, true);
        Check.statute(x, 0, "act rob need child a b=1 make debt b a+2;");
        due("1 and 2", x.friends(2, 1, 1), 6);
        x.kin(1, 2, 1, false);
        x.kin(2, 0, 1, true);
        due("0 and 2", x.friends(2, 1, 1), 5);
        x.coin(1, 9);
        due("the beginning", x.friends(0, 1, 0), 1);
        Check.statute(x, 0, "act rob need coin a=9 make own a make day+1;");
        Check.never(x, "things a=1");
        due("the least number", x.friends(4, 1, 6), 2);
        x.coin(1, 0);
        x.coin(2, 9);
        due("the least number", x.friends(4, 1, 6), 4);
        due("never 5", x.friends(5, 1, 6), NONE);
        due("never -1", x.friends(-1, 1, 6), NONE);
        due("laws 0", x.friends(0, 0, 6), NONE);
        due("laws 4", x.friends(0, 4, 6), NONE);
        due("n 7", x.friends(0, 1, 7), NONE);
        due("n -1", x.friends(0, 1, -1), NONE);
        x = new LawHoles();
        Check.statute(x, 0, "act ab make coin a+1;act cd make debt a b+1;act ef make own a make day+1;");
        Check.never(x, "coin a>2 and coin b>1 and day=0");
        due("SPENT ones have none", x.friends(0, 1, 5), NONE);
        due("SPENT", x.hole(0, 1, 5, 3, 0), SPENT);
        x = new LawHoles();
        Check.statute(x, 0, "act ab need coin a=1 make coin a-1 make coin b+2;act cd need coin a=2 make coin a-2 make coin b+3;");
        Check.never(x, "coin a=3");
        x.coin(1, 1);
        due("there and back", x.friends(0, 1, 6), 3);
        Check.never(x, "coin a=2 and day=1");
        Check.statute(x, 0, "act ab need coin a=1 make coin b+1 make coin a-1;act cd need coin a=1 and day=0 and things b=1 make coin a+1 make day+1;");
        x.owner(0, 0);
        due("not yet", x.friends(1, 1, 0), NONE);
        due("1 and 0", x.friends(1, 1, 1), 3);
        x = new LawHoles();
        for (int p = 0; p < 3; p++) {
            x.coin(p, p);
        }
        Check.statute(x, 0, "act tick need coin a=day make day+1;");
        Check.never(x, "day>2");
        Check.cure(x, 0, "0=1");
        due("all three, and cures do not count", x.friends(0, 1, 3), 7);
        due("one too few", x.friends(0, 1, 2), NONE);
    }

    /** Promise 21. */
    private void only() {
        LawHoles x = earners();
        due("by both", x.only(2, 3), 1);
        due("by one", x.only(0, 3), 0);
        due("by none", x.only(2, 1), 0);
        due("at once", x.coin(0, 4) && x.only(0, 0) == 0, true);
        due("never 4", x.only(4, 3), NONE);
        due("never -1", x.only(-1, 3), NONE);
        due("n 7", x.only(0, 7), NONE);
        due("n -1", x.only(0, -1), NONE);
        x = new LawHoles();
        Check.statute(x, 0, "act ab make coin a+1;act cd make debt a b+1;");
        Check.statute(x, 1, "act ab make own a make day+1;");
        Check.never(x, "coin a=1 and things a=1");
        Check.never(x, "things a=3");
        Check.never(x, "things a=1");
        due("all three end", x.only(0, 2), 1);
        due("one is SPENT", x.only(0, 4), SPENT);
        due("one is SPENT", x.only(1, 4), SPENT);
        due("a HOLE ahead of SPENT by two", x.only(2, 4), SPENT);
        due("a HOLE by one", x.only(2, 2), 0);
        Check.cure(x, 0, "0=1");
        due("cures do not count", x.only(0, 2), 1);
    }

    /** Promise 22. */
    private void metAlike() {
        LawHoles x = earners();
        due("met", x.met(1, 3, false), 20);
        due("unlike", x.met(1, 3, true), 7);
        Check.cure(x, 0, "0=1");
        due("cures do not count", x.met(1, 3, true), 7);
        due("met by 2", x.met(2, 3, false), 1);
        due("laws 0", x.met(0, 3, false), NONE);
        due("laws 4", x.met(4, 3, false), NONE);
        due("n 7", x.met(1, 7, false), NONE);
        due("n -1", x.met(1, -1, true), NONE);
        x = new LawHoles();
        Check.statute(x, 0, "act ab make own a;");
        due("owners", x.met(1, 1, false), 10);
        due("things and persons are alike", x.met(1, 1, true), 2);
        due("two things", x.met(1, 2, false), 37);
        due("of one, of two", x.met(1, 2, true), 4);
        due("all", x.met(1, 6, false), 64);
        due("0; 1; 2, 11; 3, 21, 111", x.met(1, 6, true), 7);
        x.coin(0, 1);
        due("0 is not alike", x.met(1, 1, true), 3);
        Check.statute(x, 0, "act ab make wed a b;act cd make adopt a b;act ef make debt a b+1;");
        x.coin(0, 0);
        due("pairs", x.met(1, 1, false), 16);
        due("pairs are alike", x.met(1, 1, true), 4);
        Check.statute(x, 0, "act ab make day+1;act cd make coin a+1;");
        due("days are not", x.met(1, 1, true), 3);
        Check.statute(x, 0, "act ab make coin a+1;act cd make debt a b+1;");
        due("SPENT", x.met(1, 4, false), SPENT);
        due("SPENT", x.met(1, 4, true), SPENT);
    }

    /** Promise 23. */
    private void gains() {
        LawHoles x = earners();
        due("gain", x.gain(1, 1, 3, 0), 6);
        due("codes", x.gain(1, 1, 3, 1), 3);
        for (int i = 0; i < 3; i++) {
            due("code", x.gain(1, 1, 3, 2 + i), 31);
        }
        due("no code", x.gain(1, 1, 3, 5), -100);
        due("what -1", x.gain(1, 1, 3, -1), -100);
        due("what most", x.gain(1, 1, 3, Integer.MAX_VALUE), -100);
        due("person 3", x.gain(3, 1, 3, 0), -100);
        due("person -1", x.gain(-1, 1, 3, 0), -100);
        due("laws 0", x.gain(0, 0, 3, 0), -100);
        due("laws 4", x.gain(0, 4, 3, 0), -100);
        due("n 7", x.gain(0, 1, 7, 0), -100);
        due("n -1", x.gain(0, 1, -1, 0), -100);
        x.debt(2, 0, 5);
        x.debt(2, 1, 4);
        x.debt(0, 2, 7);
        x.coin(2, 1);
        due("less all its debts", x.gain(2, 3, 0, 0), -8);
        due("none may be so low", x.gain(2, 3, 3, 0), -2);
        Check.statute(x, 0, "act ab make coin a+1 make debt a b+1;act cd make coin a+2 make debt a b+2;");
        due("of several the first", x.gain(0, 1, 2, 1), 0);
        due("no code", x.gain(0, 1, 2, 2), -100);
        Check.statute(x, 0, "act ab make coin b+1 make day+1;act cd make coin a+1 make day+2;");
        due("of several the first", x.gain(1, 1, 1, 2), 7);
        due("cures do not count", Check.cure(x, 0, "0=1"), 0);
        due("of several the first", x.gain(1, 1, 1, 2), 7);
        Check.statute(x, 0, "act ab make coin a+1;act cd make debt a b+1;");
        for (int what = 0; what < 20; what++) {
            due("SPENT", x.gain(0, 1, 4, what), -101);
        }
        due("another what", x.gain(0, 1, 4, -1), -100);
    }

    /** Promise 24. */
    private void stops() {
        LawHoles x = earners();
        due("no hole, no cures", x.stop(2, 1, 0), 0);
        due("how many", x.stop(2, 1, 1), 0);
        due("a hole, no cures", x.stop(2, 2, 0), NONE);
        Check.cure(x, 6, "coin b>1");
        Check.cure(x, 0, "coin a=0");
        Check.cure(x, 6, "coin a<1");
        due("one of them", x.stop(2, 2, 0), 1);
        due("one of them", x.stop(2, 3, 0), 4);
        due("how many", x.stop(2, 3, 1), 1);
        due("of another act", x.stop(0, 3, 0), 2);
        due("two of them", Check.never(x, "coin a>3 or debt a b>1"), 4);
        due("two of them", x.stop(4, 3, 0), 6);
        due("how many", x.stop(4, 3, 1), 2);
        Check.cure(x, 6, "0=1");
        due("the least set", x.stop(2, 3, 0), 4);
        Check.cure(x, 6, "things a>0");
        due("the least set", x.stop(4, 3, 0), 6);
        x.put(1, 15);
        x.put(1, 31);
        x.put(1, 391);
        due("honest", x.honest(1, true), true);
        due("an honest row stays lawful", x.stop(2, 2, 0), 1);
        due("an honest row stays lawful", x.stop(2, 3, 0), NONE);
        due("honest", x.honest(1, false), true);
        for (int row = 0; row < 6; row += 5) {
            x.put(row, 767);
            x.honest(row, true);
            due("a row that is none", x.stop(2, 1, 0), NONE);
            x.clear(row);
        }
        due("no more", x.stop(2, 1, 0), 0);
        x.honest(2, true);
        due("an empty row is lawful", x.stop(2, 1, 0), 0);
        due("never 5", x.stop(5, 3, 0), NONE);
        due("never -1", x.stop(-1, 3, 0), NONE);
        due("n 7", x.stop(2, 7, 0), NONE);
        due("n -1", x.stop(2, -1, 0), NONE);
        due("what 2", x.stop(2, 3, 2), NONE);
        due("what -1", x.stop(2, 3, -1), NONE);
        x = new LawHoles();
        Check.statute(x, 0, "act ab make coin a+1;act cd make debt a b+1;");
        Check.never(x, "coin a>15");
        Check.cure(x, 0, "0=1");
        Check.cure(x, 1, "0=1");
        due("not SPENT", x.stop(0, 3, 0), 0);
        due("none that is SPENT", x.stop(0, 4, 0), 1);
        due("none that is SPENT", x.stop(0, 6, 0), 2);
    }

    /** Promises 25 and 26. */
    private void pastAndThrough() {
        LawHoles x = new LawHoles();
        due("past -1", x.past(-1), NONE);
        due("past 768", x.past(768), NONE);
        due("no past", x.put(0, 6) == 1 && x.through(0, 0) == NONE, true);
        x.past(64 + 16 + 8);
        x.past(128);
        x.past(16 + 8);
        x.past(32 + 4 + 1);
        x.past(64 + 32 + 1);
        due("row 0", x.through(0, 0), 2);
        due("things 2 becomes 0", x.through(0, 1), 120120);
        x.put(0, 64 + 2);
        due("0 is 1 and 1 is 2", x.through(0, 0), NONE);
        x.put(1, 4 + 2);
        x.put(1, 64 + 8 + 2);
        due("0 is 2, 2 is 0, thing 2 is 1", x.through(1, 0), 4);
        due("the first of the things' renamings", x.through(1, 1), 210021);
        x.put(4, 4 + 2);
        x.put(4, 128);
        due("not in order", x.through(4, 0), NONE);
        for (int i = 6; i <= 9; i++) {
            due("past", x.past(700), i);
        }
        due("what 2", x.through(1, 2), NONE);
        due("what -1", x.through(1, -1), NONE);
        due("row 6", x.through(6, 0), NONE);
        due("row -1", x.through(-1, 0), NONE);
        due("empty row", x.through(2, 0), NONE);
        for (int i = 10; i <= 200; i++) {
            due("past", x.past(703), i);
        }
        due("a 201st", x.past(703), NONE);
        x.put(3, 703);
        x.put(3, 703);
        due("twice", x.through(3, 0), 10);
        due("without renaming", x.through(3, 1), 12012);
        x = new LawHoles();
        x.put(0, 15);
        x.put(0, 31);
        x.past(47);
        x.past(47);
        due("two of one are not one of each", x.through(0, 0), NONE);
        x.past(31);
        x.past(15);
        x.past(31);
        due("the earliest end", x.through(0, 0), 2);
        due("the first renaming", x.through(0, 1), 210012);
        x.clear(0);
        x.put(0, 767);
        x.past(767);
        due("3 stays 3", x.through(0, 0), 5);
    }

    /** What was asked once is asked anew when what it hangs on is other. */
    private void checkAnew() {
        LawHoles x = earners();
        due("before", x.hole(0, 1, 3, 7, 0), 2);
        x.coin(2, 2);
        due("coin", x.hole(0, 1, 3, 7, 1), 47);
        x.day(3);
        due("day", x.hole(0, 1, 3, 7, 0), NONE);
        x.day(0);
        x.debt(2, 1, 2);
        due("debt", x.hole(2, 1, 3, 7, 0), 0);
        x.debt(2, 1, 0);
        due("debt", x.hole(2, 1, 3, 7, 0), NONE);
        Check.never(x, "wed a b=1 and child b a=1 and things a=1");
        x.kin(0, 1, 0, true);
        due("wed", x.hole(4, 1, 0, 7, 0), NONE);
        x.kin(1, 0, 1, true);
        due("child", x.hole(4, 1, 0, 7, 0), NONE);
        x.owner(1, 0);
        due("owner", x.hole(4, 1, 0, 7, 0), 0);
        x.kin(1, 0, 1, false);
        due("child no more", x.hole(4, 1, 0, 7, 0), NONE);
        x.kin(1, 0, 1, true);
        due("child again", x.hole(4, 1, 0, 7, 0), 0);
        x.kin(1, 0, 0, false);
        due("wed no more", x.hole(4, 1, 0, 7, 0), NONE);
        due("met", x.met(2, 1, false), 3);
        Check.statute(x, 1, "");
        due("statute", x.met(2, 1, false), 1);
        due("a fault", Check.statute(x, 1, SWEAR + "x"), NONE);
        due("it stays", x.met(2, 1, false), 1);
        Check.cure(x, 0, "0=1");
        due("a cure", x.stop(0, 3, 0), 1);
        x.lawful(0, 3, 0, 0);
        due("what lies between does nothing", x.met(2, 1, false), 1);
        x.after(0, 0);
        due("what lies between does nothing", x.hole(0, 1, 3, 7, 1), 47);
    }
}
