/** What the document says of the TAPE and of TEXTS: their grammar, TOKENS and FAULTS; promises 7 to 10 and 12. */
final class TextEdges {
    private static final int NONE = LawHoles.NONE;
    private static final String[] KEYWORDS = {
        "act", "need", "make", "coin", "debt", "own", "none", "wed", "part", "adopt", "day", "a", "b",
        "or", "and", "not", "child", "owns", "things"};
    private static final String FOUR_NEEDS = "need 1=1 need 1=1 need 1=1 need 1=1 ";
    private static final String SIX_MAKES = "make day+1 make own a make day+1 make own a make day+1 make own a ";
    private static final String SIX_ACTS = "act aa;act ab;act ac;act ad;act ae;act af;";

    private final Sentences doc;

    TextEdges(Sentences doc) {
        this.doc = doc;
    }

    void run() {
        feeding();
        ending();
        statutesAndActs();
        changes();
        persons();
        conditions();
        sums();
        units();
        words();
        numbers();
        signsAndBlanks();
        wrapping();
        firstFault();
        cantStand();
        nameTwice();
        tooMany();
        tooManyOpen();
        statuteCalls();
        neverCalls();
        faultCalls();
    }

    private static int feedBlanks(LawHoles x) {
        return x.feed(0x20202020, 0x20202020, 0x20202020, 0x20202020, 0x20202020);
    }

    private void feeding() {
        doc.promise(7, "Twenty bytes come behind the TAPE, of each number the highest first: how many it has.");
        LawHoles x = new LawHoles();
        // "day=day and 1=1+0*1+", "0*15"
        doc.due("the first", x.feed(0x6461793d, 0x64617920, 0x616e6420, 0x313d312b, 0x302a312b), 20);
        doc.due("behind it", x.feed(0x302a3135, 0x20202020, 0x20202020, 0x20202020, 0x20202020), 40);
        doc.due("is a NEVER", x.never(), 0);
        doc.due("that is so", x.hole(0, 3, 0, 7, 0), 0);
        for (int at = 0; at < 20; at++) {
            int[] five = new int[5];
            for (int i = 0; i < 20; i++) {
                five[i / 4] = five[i / 4] << 8 | (i == at ? 255 : 32);
            }
            doc.due("byte " + at + " of 255", x.feed(five[0], five[1], five[2], five[3], five[4]), 20);
            x.never();
            doc.due("its place", x.fault(1), at);
        }
        doc.promise(7, "NONE, and nothing comes, if there would be more than 700.");
        x = new LawHoles();
        for (int i = 1; i <= 35; i++) {
            doc.due("feed " + i, feedBlanks(x), 20 * i);
        }
        doc.due("720 would be", feedBlanks(x), NONE);
        doc.due("700 are", x.end(701), false);
        doc.due("700 are", x.end(700), true);
        doc.due("681 are", x.end(681), true);
        doc.due("701 would be", feedBlanks(x), NONE);
        doc.due("681 are still", x.end(682), false);
        doc.due("680 are", x.end(680), true);
        doc.due("700 would be", feedBlanks(x), 700);
        doc.due("all of them count", x.never(), NONE);
        doc.due("700 blanks", x.fault(1), 700);
        Twins.stayAlike(doc, y -> {
            for (int i = 0; i < 33; i++) {
                feedBlanks(y);
            }
            doc.due("705 would be", feedBlanks(y), NONE);
            doc.due("the TAPE that was", y.end(25), true);
        });
    }

    private void ending() {
        doc.promise(8, "The TAPE has its first n bytes alone: true;");
        LawHoles x = new LawHoles();
        doc.due("of none 0", x.end(0), true);
        Check.feed(x, "day=0 or day=1");
        doc.due("all of them", x.end(14), true);
        doc.due("less", x.end(5), true);
        doc.due("5 are left", feedBlanks(x), 25);
        doc.due("a NEVER", x.never(), 0);
        x.day(1);
        doc.due("of the first 5 alone", x.hole(0, 3, 0, 7, 0), NONE);
        Check.feed(x, "day=0");
        doc.due("none", x.end(0), true);
        doc.due("none is left", feedBlanks(x), 20);
        x = new LawHoles();
        x.day(1);
        Check.feed(x, "day=12");
        doc.due("in a number", x.end(5), true);
        doc.due("which is 1 then", x.never(), 0);
        doc.due("and so", x.hole(0, 3, 0, 7, 0), 0);
        Check.feed(x, "1=days");
        doc.due("in a word", x.end(5), true);
        doc.due("which is day then", x.never(), 1);
        doc.due("and so", x.hole(1, 3, 0, 7, 0), 0);
        doc.promise(8, "false, changing nothing, if it has not so many, or n is below 0.");
        doc.due("of 20", x.end(21), false);
        x.end(0);
        doc.due("of none", x.end(1), false);
        Twins.stayAlike(doc, y -> {
            doc.due("26 of 25", y.end(26), false);
            doc.due("700 of 25", y.end(700), false);
            doc.due("most of 25", y.end(Integer.MAX_VALUE), false);
            doc.due("-1", y.end(-1), false);
            doc.due("least", y.end(Integer.MIN_VALUE), false);
        });
    }

    private void statutesAndActs() {
        doc.terms("STATUTES 0, 1 are TEXTS (empty at first) = {ACT}.");
        LawHoles x = new LawHoles();
        doc.due("no ACT at first", x.act(0, 0) + x.act(6, 0), 2 * NONE);
        doc.isStatute("", 0);
        doc.isStatute(" \n", 0);
        doc.isStatute("act ab;", 1);
        doc.isStatute("act ab;act cd;", 2);
        doc.isFaultyStatute("need 1=1;", 1, 0);
        doc.isFaultyStatute(";", 1, 0);
        doc.isFaultyStatute("act ab;;", 1, 7);
        doc.isFaultyStatute("act ab;cd", 1, 7);
        doc.terms("ACT = act NAME {need B | make CHANGE} ;.");
        doc.isStatute("act ab need 1=1;", 1);
        doc.isStatute("act ab make own a;", 1);
        doc.isStatute("act ab make own a need 1=1 make day+1 need 1=1 need 2=2;", 1);
        doc.isFaultyStatute("act;", 1, 3);
        doc.isFaultyStatute("act 12;", 1, 4);
        doc.isFaultyStatute("act ab cd;", 1, 7);
        doc.isFaultyStatute("act ab act cd;", 1, 7);
        doc.isFaultyStatute("act ab 1=1;", 1, 7);
        doc.isFaultyStatute("act ab own a;", 1, 7);
        doc.isFaultyStatute("act ab need;", 1, 11);
        doc.isFaultyStatute("act ab need make own a;", 1, 12);
        doc.isFaultyStatute("act ab need own a;", 1, 12);
        doc.isFaultyStatute("act ab make;", 1, 11);
        doc.isFaultyStatute("act ab make need 1=1;", 1, 12);
        doc.isFaultyStatute("act ab make 1=1;", 1, 12);
        doc.isFaultyStatute("act ab", 1, 6);
        doc.isFaultyStatute("act ab need 1=1", 1, 15);
        doc.isFaultyStatute("act ab make own a", 1, 17);
    }

    private void changes() {
        doc.terms("CHANGE = coin P (+ | -) E | debt P P (+ | -) E | own P | own none | wed P P | part P P | adopt P P | day + E.");
        String[] all = {"coin a+1", "coin a-1", "coin b+coin a*2-day", "coin b-1+2", "debt a b+1", "debt b a-1", "own a", "own b",
            "own none", "wed a b", "wed b a", "part a b", "part b a", "adopt a b", "adopt b a", "day+1", "day+0-1"};
        for (String change : all) {
            doc.isStatute("act xx make " + change + ";", 1);
            doc.isFaultyStatute("act xx make " + change + ")", 1, 12 + change.length());
        }
        isNoChange("coin a", 6);
        isNoChange("coin a 1", 7);
        isNoChange("coin a=1", 6);
        isNoChange("coin a*1", 6);
        isNoChange("coin a+", 7);
        isNoChange("coin a+-1", 7);
        isNoChange("coin a+(1)", 7);
        isNoChange("coin+1", 4);
        isNoChange("coin none+1", 5);
        isNoChange("coin a b+1", 7);
        isNoChange("debt a+1", 6);
        isNoChange("debt+1", 4);
        isNoChange("debt a b", 8);
        isNoChange("debt a b=1", 8);
        isNoChange("own", 3);
        isNoChange("own a b", 6);
        isNoChange("own a+1", 5);
        isNoChange("own none a", 9);
        isNoChange("own 1", 4);
        isNoChange("wed a", 5);
        isNoChange("wed a b+1", 7);
        isNoChange("part b", 6);
        isNoChange("adopt a", 7);
        isNoChange("adopt none a", 6);
        isNoChange("day", 3);
        isNoChange("day-1", 3);
        isNoChange("day=1", 3);
        isNoChange("day a+1", 4);
        isNoChange("child a b", 0);
        isNoChange("owns a", 0);
        isNoChange("things a+1", 0);
        isNoChange("none", 0);
    }

    private void isNoChange(String change, int place) {
        doc.isFaultyStatute("act xx make " + change + ";", 1, 12 + place);
    }

    private void persons() {
        doc.terms("P = a | b (two P in one place are unlike: a b or b a).");
        String[] pairs = {"a b", "b a", "a a", "b b"};
        for (int i = 0; i < 4; i++) {
            for (String kind : new String[] {"debt", "wed", "child"}) {
                if (i < 2) {
                    doc.isCondition(kind + " " + pairs[i] + "=0", true);
                } else {
                    doc.isFaultyCondition(kind + " " + pairs[i] + "=0", 1, kind.length() + 3);
                }
            }
            for (String kind : new String[] {"debt", "wed", "part", "adopt"}) {
                String more = kind.equals("debt") ? "+1;" : ";";
                if (i < 2) {
                    doc.isStatute("act xx make " + kind + " " + pairs[i] + more, 1);
                } else {
                    isNoChange(kind + " " + pairs[i] + more, kind.length() + 3);
                }
            }
        }
        for (String other : new String[] {"c", "aa", "ab", "none", "0", "day", "A"}) {
            doc.isFaultyCondition("coin " + other + "=0", 1, 5);
            doc.isFaultyCondition("debt a " + other + "=0", 1, 7);
            doc.isFaultyCondition("debt " + other + " a=0", 1, 5);
        }
    }

    private void conditions() {
        doc.terms("B = A {or A}.");
        doc.isCondition("1=2 or 1=1", true);
        doc.isCondition("1=1 or 1=2", true);
        doc.isCondition("1=2 or 1=2", false);
        doc.isCondition("1=2 or 1=2 or 1=2 or 1=1", true);
        doc.isCondition("1=1 or 1=1 and 1=2", true);
        doc.isCondition("1=2 and 1=1 or 1=1", true);
        doc.isFaultyCondition("or 1=1", 1, 0);
        doc.isFaultyCondition("1=1 or", 1, 6);
        doc.isFaultyCondition("1=1 or or 1=1", 1, 7);
        doc.terms("A = C {and C}.");
        doc.isCondition("1=1 and 1=1", true);
        doc.isCondition("1=1 and 1=2", false);
        doc.isCondition("1=2 and 1=1", false);
        doc.isCondition("1=1 and 1=1 and 1=1 and 1=2", false);
        doc.isCondition("1=2 or 1=1 and 1=2", false);
        doc.isFaultyCondition("and 1=1", 1, 0);
        doc.isFaultyCondition("1=1 and", 1, 7);
        doc.isFaultyCondition("1=1 and or 1=1", 1, 8);
        doc.isFaultyCondition("1=1 1=1", 1, 4);
        doc.terms("C = E (< | = | >) E | not C | ( B ).");
        String[] signs = {"<", "=", ">"};
        for (int i = 0; i < 3; i++) {
            doc.isCondition("2" + signs[i] + "3", i == 0);
            doc.isCondition("3" + signs[i] + "3", i == 1);
            doc.isCondition("4" + signs[i] + "3", i == 2);
            doc.isFaultyCondition("1" + signs[i], 1, 2);
            doc.isFaultyCondition(signs[i] + "1", 1, 0);
            doc.isFaultyCondition("1" + signs[i] + "=1", 1, 2);
            doc.isFaultyCondition("1=1" + signs[i] + "1", 1, 3);
        }
        for (String so : new String[] {"2<3", "3=3", "4>3"}) {
            doc.isCondition("not " + so, false);
            doc.isCondition("not not " + so, true);
            doc.isCondition(so + " and 3=3 and 3>2 and 2<3", true);
            doc.isCondition("not (" + so + " or 2=3)", false);
            doc.isCondition("not (" + so + " and 2=3)", true);
        }
        doc.isCondition("not 1=2", true);
        doc.isCondition("not not 1=1", true);
        doc.isCondition("not 1=1 or 1=1", true);
        doc.isCondition("not 1=2 and 1=2", false);
        doc.isCondition("not (1=2 and 1=2)", true);
        doc.isCondition("(1=1 or 1=1) and 1=2", false);
        doc.isCondition("((1=1))", true);
        doc.isFaultyCondition("1", 1, 1);
        doc.isFaultyCondition("not", 1, 3);
        doc.isFaultyCondition("not 1", 1, 5);
        doc.isFaultyCondition("1=1 not 1=1", 1, 4);
        doc.isFaultyCondition("1=not 1", 1, 2);
        doc.isFaultyCondition("()", 1, 1);
        doc.isFaultyCondition("(1=1", 1, 4);
        doc.isFaultyCondition("(1)=1", 1, 2);
        doc.isFaultyCondition("(1=1))", 1, 5);
        doc.isFaultyCondition("(1=1)=1", 1, 5);
        doc.isFaultyCondition("(1=1)(1=1)", 1, 5);
    }

    private void sums() {
        doc.terms("E = T {(+ | -) T}.");
        doc.isCondition("1+2+3=6", true);
        doc.isCondition("9-3-2=4", true);
        doc.isCondition("9-3+2=8", true);
        doc.isCondition("4=9-3-2", true);
        doc.isFaultyCondition("+1=1", 1, 0);
        doc.isFaultyCondition("-1=1", 1, 0);
        doc.isFaultyCondition("1+=1", 1, 2);
        doc.isFaultyCondition("1-+1=1", 1, 2);
        doc.isFaultyCondition("1=1-", 1, 4);
        doc.isFaultyCondition("1=1+(1)", 1, 4);
        doc.terms("T = U {* U}.");
        doc.isCondition("2*3*4=24", true);
        doc.isCondition("1+2*3=7", true);
        doc.isCondition("2*3+4=10", true);
        doc.isCondition("20-2*3*2-1=7", true);
        doc.isFaultyCondition("*1=1", 1, 0);
        doc.isFaultyCondition("1**1=1", 1, 2);
        doc.isFaultyCondition("1*-1=1", 1, 2);
        doc.isFaultyCondition("1=1*", 1, 4);
        doc.isFaultyCondition("2*(1)=1", 1, 2);
    }

    private void units() {
        doc.terms("U = NUMBER | coin P | debt P P | wed P P | child P P | owns P | things P | day.");
        String[] all = {"0", "coin a", "coin b", "debt a b", "debt b a", "wed a b", "wed b a", "child a b", "child b a",
            "owns a", "owns b", "things a", "things b", "day"};
        for (String unit : all) {
            doc.isCondition(unit + "=0", true);
            doc.isCondition("1>" + unit + "*2", true);
            doc.isFaultyCondition(unit, 1, unit.length());
            doc.isFaultyCondition(unit + "=", 1, unit.length() + 1);
        }
        String[] others = {"a", "b", "c", "ab", "act", "need", "make", "own a", "none", "part a b", "adopt a b", "or", "and", "0000"};
        for (String other : others) {
            doc.isFaultyCondition(other + "=0", 1, 0);
            doc.isFaultyCondition("0=" + other, 1, 2);
        }
        doc.isFaultyCondition("coin=0", 1, 4);
        doc.isFaultyCondition("coin a b=0", 1, 7);
        doc.isFaultyCondition("debt=0", 1, 4);
        doc.isFaultyCondition("debt a=0", 1, 6);
        doc.isFaultyCondition("wed b=0", 1, 5);
        doc.isFaultyCondition("child b=0", 1, 7);
        doc.isFaultyCondition("owns=0", 1, 4);
        doc.isFaultyCondition("owns a b=0", 1, 7);
        doc.isFaultyCondition("things=0", 1, 6);
        doc.isFaultyCondition("day a=0", 1, 4);
    }

    private void words() {
        doc.terms("TOKENS: small letters as many as stand together are KEYWORDS (those told here, a and b too;"
            + " act need make none part adopt own ..), NAMES (2 to 8 letters) or none;");
        for (String word : KEYWORDS) {
            doc.isFaultyStatute("act " + word + ";", 1, 4);
            // with a letter more it is none of them
            doc.isStatute("act " + word + "z;", 1);
        }
        for (char letter = 'c'; letter <= 'z'; letter++) {
            doc.isFaultyStatute("act " + letter + ";", 1, 4);
            doc.isStatute("act " + letter + "a;", 1);
        }
        for (String name : new String[] {"aa", "ab", "ba", "name", "number", "change", "coins", "thing", "childs", "zzzzzzzz"}) {
            doc.isStatute("act " + name + ";", 1);
        }
        String letters = "qrstuvwxyqrstuvwxy";
        for (int length = 1; length <= letters.length(); length++) {
            String name = letters.substring(0, length);
            if (length >= 2 && length <= 8) {
                doc.isStatute("act " + name + ";", 1);
            } else {
                doc.isFaultyStatute("act " + name + ";", 1, 4);
            }
        }
        doc.isStatute("act abcdefgh;act abcdefgi;act bcdefgh;act abcdefg;act aabcdefg;act zbcdefgh;", 6);
        for (char letter = 'a'; letter <= 'z'; letter++) {
            doc.isStatute("act ab;act " + letter + "ab;act ab" + letter + letter + ";", 3);
        }
        doc.isFaultyStatute("actab;", 1, 0);
        doc.isFaultyStatute("act abneed 1=1;", 1, 11);
        doc.isFaultyStatute("act ab needday=1;", 1, 7);
        doc.isFaultyCondition("coina=0", 1, 0);
        doc.isFaultyCondition("debt ab=0", 1, 5);
        doc.isFaultyCondition("not1=1 and", 1, 10);
        doc.isFaultyCondition("notday=1", 1, 0);
        doc.isCondition("not1=2and(1=1)or2=3and not(day=day)", true);
    }

    private void numbers() {
        doc.terms("digits as many as stand together NUMBERS of 1 to 3 digits or none;");
        for (String number : new String[] {"0", "9", "00", "10", "99", "000", "010", "100", "999"}) {
            doc.isCondition(number + "=" + Integer.parseInt(number), true);
            doc.isCondition(number + "*1=0+" + number, true);
        }
        doc.isCondition("010=10 and 007=7 and 999=900+99", true);
        for (String none : new String[] {"0000", "0001", "1000", "9999", "12345678901234567890"}) {
            doc.isFaultyCondition(none + "=1", 1, 0);
            doc.isFaultyCondition("1=" + none, 1, 2);
        }
        doc.isFaultyCondition("1 2=12", 1, 2);
        doc.isFaultyCondition("100 0=1", 1, 4);
        doc.isFaultyStatute("act ab1;", 1, 6);
        doc.isFaultyStatute("act 1ab;", 1, 4);
    }

    private void signsAndBlanks() {
        doc.terms("; + - * ( ) < = > .");
        doc.isFaultyStatute("act ab need(1+1-1)*1=1;", 1, 17);
        doc.isStatute("act ab need(1+1-1*1=1and 1<2and 2>1);", 1);
        for (int sign = 0; sign < 256; sign++) {
            boolean isBlank = sign == 32 || sign == 10;
            boolean isLetter = sign >= 'a' && sign <= 'z';
            boolean isDigit = sign >= '0' && sign <= '9';
            String text = "act ab" + (char) sign + ";";
            if (isBlank || isLetter) {
                doc.isStatute(text, 1);
            } else {
                doc.isFaultyStatute(text, 1, sign == ';' ? 7 : 6);
            }
            text = "1=1" + (char) sign;
            if (sign == ';') {
                // it may stand behind a need
                doc.isStatute("act ab need " + text, 1);
            } else if (isBlank || isDigit) {
                doc.isCondition(text, isBlank);
            } else {
                boolean waitsForMore = sign == '+' || sign == '-' || sign == '*';
                doc.isFaultyCondition(text + " ", 1, waitsForMore ? 5 : 3);
            }
        }
        doc.terms("Blanks (32, 10) between.");
        doc.isCondition("  \n1\n\n =   1  \n", true);
        doc.isCondition("1=1", true);
        doc.isStatute("\nact\nab\nneed coin\na>1 make\ndebt a\nb + 1 ;\n", 1);
        doc.isStatute("act ab need coin a>1make debt a b+1;act cd;", 1 + 1);
        for (int blank : new int[] {0, 9, 11, 12, 13, 160}) {
            doc.isFaultyCondition("1=" + (char) blank + "1", 1, 2);
        }
    }

    private void wrapping() {
        doc.terms("Ints, which wrap.");
        String high = "256*256*256*128";
        doc.isCondition(high + "<0", true);
        doc.isCondition(high + "-1>0", true);
        doc.isCondition(high + "-1+1<0", true);
        doc.isCondition("0-" + high + "=" + high, true);
        doc.isCondition("2*" + high + "=0", true);
        doc.isCondition("256*256*256*256=0", true);
        doc.isCondition("256*256*256*256+5=5", true);
        doc.isCondition("999*999*999*999=999*999*999*999", true);
        doc.isCondition("999*999*999*999>0", 999 * 999 * 999 * 999 > 0);
        doc.isCondition("999*999*999*9<0", 999 * 999 * 999 * 9 < 0);
        // it is held by what is left, not by the lesser of long numbers
        doc.isCondition(high + "-1>" + high, true);
        LawHoles x = new LawHoles();
        doc.due("makes", Check.statute(x, 0, "act ab make coin a+" + high + " make coin a+" + high + "+3 make day+256*256*256*256;"), 1);
        x.put(0, 15);
        doc.due("wrap too", x.lawful(0, 3, 0, 0), 1);
        doc.due("to 3", x.after(0, 0), 3);
        doc.due("to 0", x.after(0, 50), 0);
    }

    private void firstFault() {
        doc.terms("FAULTS, the first by its place, at one place the least:");
        doc.isFaultyStatute("act ab;act ab need 1", 2, 11);
        doc.isFaultyStatute("act ab need 1;act ab;", 1, 13);
        doc.isFaultyStatute("act ab;act cd x;act ab;", 1, 14);
        doc.isFaultyStatute(SIX_ACTS + "act aa;", 3, 42);
        doc.isFaultyStatute(SIX_ACTS + "act;", 3, 42);
        doc.isFaultyStatute("act aa " + FOUR_NEEDS + "need 1000=1;", 3, 43);
        doc.isFaultyStatute("act aa " + FOUR_NEEDS + "? need 1=1;", 1, 43);
        doc.isFaultyCondition("(((((((((!", 3, 8);
        doc.isFaultyCondition("((((((!(((", 1, 6);
        // 1 and 3 at one place
        doc.isFaultyStatute(SIX_ACTS.substring(0, 41) + " act ag;", 1, 42);
        doc.isFaultyStatute("act aa " + FOUR_NEEDS + "and need 1=1;", 1, 47);
        doc.isFaultyStatute("act aa " + FOUR_NEEDS + "make need 1=1;", 1, 48);
        doc.isFaultyStatute("act aa " + SIX_MAKES + "need make day+1;", 1, 7 + SIX_MAKES.length() + 5);
        doc.isFaultyCondition("((((((((1=(", 1, 10);
        doc.isFaultyCondition("((((((((1(", 1, 9);
        doc.isFaultyCondition("((((((((1=1(", 1, 11);
        doc.isFaultyCondition("((((((((1=not", 1, 10);
        doc.isFaultyCondition("((((((((1=1 not", 1, 12);
    }

    private void cantStand() {
        doc.terms("1 what can't stand there (the end: the text's length; the second of two like P).");
        doc.isFaultyCondition("", 1, 0);
        doc.isFaultyCondition(" ", 1, 1);
        doc.isFaultyCondition("1= \n ", 1, 5);
        doc.isFaultyStatute("act", 1, 3);
        doc.isFaultyStatute("act \n", 1, 5);
        doc.isFaultyStatute("act ab make coin a+1", 1, 20);
        doc.isFaultyStatute("act ab make coin a+1   ", 1, 23);
        doc.isFaultyCondition("debt a a=1", 1, 7);
        doc.isFaultyCondition("child b  b=1", 1, 9);
        doc.isFaultyCondition("debt a =1", 1, 7);
        doc.isFaultyStatute("act ab make wed b b;", 1, 18);
        LawHoles x = new LawHoles();
        String full = "1+".repeat(348) + "1=1";
        doc.due("a text of 700", Check.never(x, full + "+"), NONE);
        doc.due("the end of 700", x.fault(1), 700);
        doc.due("a text of 700", Check.never(x, full + ";"), NONE);
        doc.due("the last of 700", x.fault(1), 699);
        doc.due("a text of 700", Check.never(x, full + "9"), 0);
        doc.due("a text of 700", Check.never(x, "1+".repeat(347) + "1>=day"), NONE);
        doc.due("not its last word", x.fault(1), 696);
        doc.due("a text of 700", Check.never(x, "1+".repeat(347) + "10>day"), 1);
        doc.due("its last word counts", x.hole(1, 3, 0, 7, 0), 0);
        doc.due("a statute of 700", Check.statute(x, 0, "act ab" + " ".repeat(693) + ";"), 1);
        doc.due("a statute of 700", Check.statute(x, 0, "act ab" + " ".repeat(694)), NONE);
        doc.due("the end of 700", x.fault(1), 700);
    }

    private void nameTwice() {
        doc.terms("2 (at the NAME) an ACT of this STATUTE has it.");
        doc.isFaultyStatute("act ab;act ab;", 2, 11);
        doc.isFaultyStatute("act ab;act cd;\nact ab", 2, 19);
        doc.isFaultyStatute("act abcdefgh;act abcdefgh;", 2, 17);
        doc.isFaultyStatute("act ab;act ac;act ad;act ae;act af;act af;", 2, 39);
        doc.isStatute("act ab;act ba;act abb;act aab;act abab;act aba;", 6);
        LawHoles x = new LawHoles();
        doc.due("in STATUTE 0", Check.statute(x, 0, "act ab;"), 1);
        doc.due("in STATUTE 1", Check.statute(x, 1, "act ab;"), 1);
        doc.due("in STATUTE 1 anew", Check.statute(x, 1, "act ab;act cd;"), 2);
        doc.due("of a STATUTE with a FAULT", Check.statute(x, 1, "act ef;act gh"), NONE);
        doc.due("it has no name", Check.statute(x, 1, "act ef;"), 1);
    }

    private void tooMany() {
        doc.terms("3 (at act) the 7th ACT;");
        doc.isStatute(SIX_ACTS, 6);
        doc.isFaultyStatute(SIX_ACTS + "act ag;", 3, 42);
        doc.isFaultyStatute(SIX_ACTS + " \nact", 3, 44);
        doc.isFaultyStatute(SIX_ACTS + "ag", 1, 42);
        doc.terms("(at need) the 5th of its ACT;");
        doc.isStatute("act xx " + FOUR_NEEDS + ";", 1);
        doc.isStatute("act xx " + FOUR_NEEDS + SIX_MAKES + ";act yy " + FOUR_NEEDS + ";", 2);
        doc.isFaultyStatute("act xx " + FOUR_NEEDS + "need 1=1;", 3, 43);
        doc.isFaultyStatute("act xx " + FOUR_NEEDS + SIX_MAKES + "need", 3, 43 + SIX_MAKES.length());
        doc.isFaultyStatute("act yy;act xx " + FOUR_NEEDS + "need 1=1;", 3, 50);
        doc.terms("(at make) the 7th of its ACT;");
        int behind = 7 + SIX_MAKES.length();
        doc.isStatute("act xx " + SIX_MAKES + ";", 1);
        doc.isStatute("act xx " + SIX_MAKES + ";act yy " + SIX_MAKES + FOUR_NEEDS + ";", 2);
        doc.isFaultyStatute("act xx " + SIX_MAKES + "make day+1;", 3, behind);
        doc.isFaultyStatute("act xx " + SIX_MAKES + "make", 3, behind);
        doc.isFaultyStatute("act xx " + SIX_MAKES + FOUR_NEEDS + "make own a;", 3, behind + FOUR_NEEDS.length());
        doc.isFaultyStatute("act yy make day+1;act xx " + SIX_MAKES + "make day+1;", 3, 18 + behind);
    }

    private void tooManyOpen() {
        doc.terms("(at it) the 9th ( or not that is open.");
        doc.isCondition("((((((((1=1))))))))", true);
        doc.isCondition("not not not not not not not not 1=1", true);
        doc.isCondition("not(not(not(not(1=1))))", true);
        doc.isFaultyCondition("(((((((((1=1)))))))))", 3, 8);
        doc.isFaultyCondition("not not not not not not not not not 1=1", 3, 32);
        doc.isFaultyCondition("not(not(not(not(not 1=1))))", 3, 16);
        doc.isFaultyCondition("not(not(not(not((1=1)))))", 3, 16);
        doc.isFaultyCondition("((((((((not 1=1", 3, 8);
        // a ( is open up to its ), a not up to the end of its C
        doc.isCondition("((((((((1=1)))))))) and ((((((((1=1))))))))", true);
        doc.isFaultyCondition("((((((((1=1)))))))) and (((((((((1=1", 3, 32);
        doc.isFaultyCondition("((((((((1=1) and ((1=1", 3, 18);
        doc.isCondition("((((((((1=1) and (1=1) and not 1=2)))))))", true);
        doc.isCondition("not not not not not not not not 1=1 and not not not not not not not not 1=1", true);
        doc.isCondition("(((((((not 1=2 and not 1=2 or (1=1) and not 1=1)))))))", true);
        doc.isFaultyCondition("(((((((not 1=2 and not (1=2", 3, 23);
        // those of one need are closed ahead of the next
        doc.isStatute("act xx need ((((((((1=1)))))))) need ((((((((1=1))))))));", 1);
        doc.isFaultyStatute("act xx need ((((((((1=1)))))))) need (((((((((1=1", 3, 45);
    }

    private void statuteCalls() {
        doc.promise(9, "The TAPE, empty then, is a STATUTE: how many ACTS.");
        LawHoles x = new LawHoles();
        doc.due("two", Check.statute(x, 1, "act ab;act cd;"), 2);
        doc.due("empty then", x.end(1), false);
        doc.due("none", x.statute(1), 0);
        doc.due("no ACT is left", x.act(6, 0), NONE);
        doc.due("six", Check.statute(x, 0, SIX_ACTS), 6);
        doc.due("one", Check.statute(x, 0, "act gh make day+1;"), 1);
        doc.due("which is another", x.act(0, 3), 1);
        doc.due("and alone", x.act(1, 3), NONE);
        doc.promise(9, "NONE: no such one (fault() tells 0), or a FAULT (it stays as it was).");
        for (int l : new int[] {-1, 2, 3, Integer.MIN_VALUE, Integer.MAX_VALUE}) {
            doc.due("a FAULT", Check.statute(x, 0, "act ij"), NONE);
            doc.due("is told", x.fault(0), 1);
            doc.due("no STATUTE " + l, Check.statute(x, l, "act ij"), NONE);
            doc.due("fault(0) tells 0", x.fault(0), 0);
            doc.due("fault(1) tells NONE", x.fault(1), NONE);
            doc.due("empty then", x.end(1), false);
            doc.due("no STATUTE " + l, Check.statute(x, l, "act ij;"), NONE);
        }
        doc.due("it stays", x.act(0, 3), 1);
        for (String text : new String[] {"act ij;act kl", "act ij;act ij;", SIX_ACTS + "act gg;"}) {
            doc.due("a FAULT", Check.statute(x, 0, text), NONE);
            doc.due("empty then", x.end(1), false);
            doc.due("it stays", x.act(0, 3), 1);
            doc.due("it stays", x.act(1, 3), NONE);
        }
    }

    private void neverCalls() {
        doc.promise(10, "The TAPE, empty then, is one more NEVER: its number.");
        LawHoles x = new LawHoles();
        for (int k = 0; k < 6; k++) {
            doc.due("a FAULT is no NEVER", Check.never(x, "day="), NONE);
            doc.due("empty then", x.end(1), false);
            doc.due("there is none yet", x.hole(k, 3, 0, 7, 20), NONE);
            doc.due("never", Check.never(x, "day=" + k), k);
            doc.due("empty then", x.end(1), false);
            doc.due("there is one", x.hole(k, 3, 0, 7, 20), 1);
        }
        doc.promise(10, "NONE: there are six (fault() tells 0), or a FAULT.");
        doc.due("a FAULT", Check.statute(x, 0, "act"), NONE);
        doc.due("a seventh", Check.never(x, "day=6"), NONE);
        doc.due("fault(0) tells 0", x.fault(0), 0);
        doc.due("fault(1) tells NONE", x.fault(1), NONE);
        doc.due("empty then", x.end(1), false);
        doc.due("a seventh with a FAULT", Check.never(x, "day"), NONE);
        doc.due("fault(0) tells 0", x.fault(0), 0);
        doc.due("there is no seventh", x.hole(6, 3, 0, 7, 20), NONE);
        x.day(5);
        doc.due("the sixth stays", x.hole(5, 3, 0, 7, 0), 0);
        x = new LawHoles();
        doc.due("a FAULT", Check.never(x, "day=1;"), NONE);
        doc.due("is told", x.fault(0), 1);
        doc.due("at its place", x.fault(1), 5);
        doc.due("there is none", x.hole(0, 3, 0, 7, 20), NONE);
        doc.due("an empty one", x.never(), NONE);
        doc.due("is one at 0", x.fault(1), 0);
    }

    private void faultCalls() {
        doc.promise(12, "Of the latest statute(), never() or cure(): what 0 the FAULT (0 without one), 1 its place (NONE).");
        LawHoles x = new LawHoles();
        doc.due("at first", x.fault(0), 0);
        doc.due("no place", x.fault(1), NONE);
        Check.statute(x, 0, "act ab;act ab;");
        doc.due("of statute()", x.fault(0), 2);
        doc.due("its place", x.fault(1), 11);
        Check.never(x, "(((((((((");
        doc.due("of never()", x.fault(0), 3);
        doc.due("its place", x.fault(1), 8);
        Check.cure(x, 0, "day=");
        doc.due("of cure()", x.fault(0), 1);
        doc.due("its place", x.fault(1), 4);
        x.feed(0, 0, 0, 0, 0);
        x.end(0);
        x.act(0, 0);
        x.put(0, 768);
        x.fault(9);
        doc.due("of the latest still", x.fault(0), 1);
        doc.due("its place", x.fault(1), 4);
        for (int i = 0; i < 3; i++) {
            Check.never(x, "day=!");
            doc.due("a FAULT", x.fault(1), 4);
            int got = i == 0 ? Check.statute(x, 0, "") : i == 1 ? Check.never(x, "1=1") : Check.cure(x, 0, "1=1");
            doc.due("without one", got, 0);
            doc.due("0", x.fault(0), 0);
            doc.due("NONE", x.fault(1), NONE);
        }
        doc.promise(12, "NONE for another what.");
        Check.never(x, "day=!");
        for (int what : new int[] {Integer.MIN_VALUE, -1, 2, 3, Integer.MAX_VALUE}) {
            doc.due("fault(" + what + ")", x.fault(what), NONE);
        }
    }
}
