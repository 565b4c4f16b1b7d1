import java.util.ArrayList;
import java.util.Arrays;

/** Holes in a law: rows of lawful acts to what was never meant to be. */
public final class LawHoles {
    public static final int NONE = -1;
    public static final int SPENT = -2;

    private static final int PERSONS = 3;
    private static final int THINGS = 3;
    /** Who is neither PERSON nor THING: the OWNER of what nobody has, the b or t that an ACT does without. */
    private static final int NOBODY = 3;
    private static final int MOST_COIN = 15;
    private static final int MOST_DEBT = 7;
    private static final int MOST_DAY = 15;
    private static final int MOST_BYTES = 700;
    private static final int STATUTES = 2;
    private static final int MOST_ACTS = 6;
    private static final int MOST_NEEDS = 4;
    private static final int MOST_MAKES = 6;
    private static final int MOST_OPEN = 8;
    private static final int MOST_NEVERS = 6;
    private static final int MOST_CURES = 5;
    private static final int ROWS = 6;
    private static final int MOST_IN_ROW = 12;
    private static final int MOST_IN_PAST = 200;
    private static final int CODES = 768;
    private static final int CODES_OF_ACT = 64;
    /** How many CODES can be LAWFUL at once: of 12 ACTS by 3 PERSONS with 2 others and 3 THINGS. */
    private static final int MOST_CODES = 216;
    private static final int MOST_MET = 400;
    private static final int MOST_DEEP = 6;
    private static final int BOTH = 3;
    private static final int ALL_PERSONS = 7;
    private static final int RENAMINGS = 6;
    /** What 0, 1, 2 become, by each renaming, in the order of the document. */
    private static final int[] BECOME = {0, 1, 2, 0, 2, 1, 1, 0, 2, 1, 2, 0, 2, 0, 1, 2, 1, 0};
    private static final int CANT_STAND = 1;
    private static final int NAME_TWICE = 2;
    private static final int TOO_MANY = 3;
    private static final int FIRST_CURE = 10;
    private static final int BOUNDS = 20;
    private static final int NO_CODE = 30;
    private static final int HOW_MANY_MET = 20;
    /** What gain() adds to NONE and SPENT, since a GAIN may be -1 or -2 too. */
    private static final int BELOW_GAINS = -99;

    private final int[] tape = new int[MOST_BYTES];
    private int tapeLength = 0;
    private final Reader reader = new Reader();
    private final Law law = new Law();
    private final State beginning = new State();
    private final Court court = new Court(law);
    private final Search search = new Search(court, beginning);
    private final Row[] rows = new Row[ROWS];
    private final Row history = new Row(MOST_IN_PAST);

    public LawHoles() {
        for (int i = 0; i < ROWS; i++) {
            rows[i] = new Row(MOST_IN_ROW);
        }
    }

    public boolean coin(int p, int v) {
        if (!isPerson(p) || !isWithin(v, MOST_COIN)) {
            return false;
        }
        beginning.set(p, v);
        search.forget();
        return true;
    }

    public boolean debt(int p, int q, int v) {
        if (!arePair(p, q) || !isWithin(v, MOST_DEBT)) {
            return false;
        }
        beginning.set(State.DEBT + PERSONS * p + q, v);
        search.forget();
        return true;
    }

    public boolean kin(int p, int q, int what, boolean is) {
        if (!arePair(p, q) || !isWithin(what, 1)) {
            return false;
        }
        int value = is ? 1 : 0;
        if (what == 0) {
            beginning.set(State.WED + PERSONS * p + q, value);
            beginning.set(State.WED + PERSONS * q + p, value);
        } else {
            beginning.set(State.CHILD + PERSONS * p + q, value);
        }
        search.forget();
        return true;
    }

    public boolean owner(int t, int p) {
        if (!isThing(t) || !isWithin(p, NOBODY)) {
            return false;
        }
        beginning.set(State.OWNER + t, p);
        search.forget();
        return true;
    }

    public boolean day(int v) {
        if (!isWithin(v, MOST_DAY)) {
            return false;
        }
        beginning.set(State.DAY, v);
        search.forget();
        return true;
    }

    public int feed(int a, int b, int c, int d, int e) {
        if (tapeLength + 20 > MOST_BYTES) {
            return NONE;
        }
        feedFour(a);
        feedFour(b);
        feedFour(c);
        feedFour(d);
        feedFour(e);
        return tapeLength;
    }

    public boolean end(int n) {
        if (!isWithin(n, tapeLength)) {
            return false;
        }
        tapeLength = n;
        return true;
    }

    public int statute(int l) {
        takeTape();
        if (!isWithin(l, STATUTES - 1)) {
            return NONE;
        }
        for (int i = 0; i <= MOST_ACTS && reader.kind() == Tokens.ACT; i++) {
            if (!reader.readAct()) {
                return NONE;
            }
        }
        if (!reader.isAtEnd()) {
            return NONE;
        }
        law.enact(l, reader.acts);
        search.forget();
        return reader.acts.size();
    }

    public int never() {
        takeTape();
        if (law.nevers.size() >= MOST_NEVERS || !reader.readCondition()) {
            return NONE;
        }
        law.nevers.add(reader.clause(Tokens.NEED, 0));
        return law.nevers.size() - 1;
    }

    public int cure(int act) {
        takeTape();
        if (law.cures.size() >= MOST_CURES || !isWithin(act, STATUTES * MOST_ACTS - 1) || !reader.readCondition()) {
            return NONE;
        }
        law.cures.add(new Cure(act, reader.clause(Tokens.NEED, 0)));
        search.forget();
        return law.cures.size() - 1;
    }

    public int fault(int what) {
        if (what == 0) {
            return reader.fault;
        }
        return what == 1 ? reader.faultPlace : NONE;
    }

    public int act(int x, int what) {
        Act act = law.actAt(x);
        if (act == null) {
            return NONE;
        }
        switch (what) {
            case 0:
                return act.withOther ? 1 : 0;
            case 1:
                return act.withThing ? 1 : 0;
            case 2:
                return act.needs.size();
            case 3:
                return act.makes.size();
            default:
                return NONE;
        }
    }

    public int put(int row, int code) {
        if (!isRow(row) || !isWithin(code, CODES - 1)) {
            return NONE;
        }
        return rows[row].add(code);
    }

    public boolean clear(int row) {
        if (!isRow(row)) {
            return false;
        }
        rows[row].count = 0;
        rows[row].isHonest = false;
        return true;
    }

    public boolean honest(int row, boolean is) {
        if (!isRow(row) || rows[row].isHonest == is) {
            return false;
        }
        rows[row].isHonest = is;
        return true;
    }

    public int lawful(int row, int laws, int cures, int what) {
        if (!isRow(row) || !areLaws(laws) || !isWithin(cures, (1 << MOST_CURES) - 1) || !isWithin(what, 1)) {
            return NONE;
        }
        int count = court.follow(rows[row], beginning, laws, cures);
        return what == 0 ? count : court.reason;
    }

    public int after(int row, int what) {
        if (!isRow(row) || !State.has(what)) {
            return NONE;
        }
        court.follow(rows[row], beginning, BOTH, 0);
        return court.here.get(what);
    }

    public int hole(int k, int laws, int n, int persons, int what) {
        if (!isNever(k) || !areLaws(laws) || !isDepth(n)) {
            return NONE;
        }
        if (persons < 1 || persons > ALL_PERSONS || !isWithin(what, HOW_MANY_MET)) {
            return NONE;
        }
        search.begin(laws, n, persons, 0);
        int found = search.first(k);
        if (what == HOW_MANY_MET) {
            return found == NONE ? search.count : found + 1;
        }
        if (found == NONE) {
            // ahead of "there is no such CODE": without a HOLE there is none, whichever k it is
            return search.isSpent ? SPENT : NONE;
        }
        return what == 0 ? search.acts(found) : search.code(found, what - 1);
    }

    public int friends(int k, int laws, int n) {
        if (!isNever(k) || !areLaws(laws) || !isDepth(n)) {
            return NONE;
        }
        for (int many = 1; many <= PERSONS; many++) {
            for (int persons = 1; persons <= ALL_PERSONS; persons++) {
                if (Integer.bitCount(persons) != many) {
                    continue;
                }
                search.begin(laws, n, persons, 0);
                if (search.first(k) != NONE) {
                    return persons;
                }
            }
        }
        return NONE;
    }

    public int only(int k, int n) {
        if (!isNever(k) || !isDepth(n)) {
            return NONE;
        }
        int together = hasHole(k, BOTH, n);
        int first = hasHole(k, 1, n);
        int second = hasHole(k, 2, n);
        if (together == SPENT || first == SPENT || second == SPENT) {
            return SPENT;
        }
        return together == 1 && first == 0 && second == 0 ? 1 : 0;
    }

    public int met(int laws, int n, boolean alike) {
        if (!areLaws(laws) || !isDepth(n)) {
            return NONE;
        }
        search.begin(laws, n, ALL_PERSONS, 0);
        search.finish();
        if (search.isSpent) {
            return SPENT;
        }
        return alike ? search.unlike() : search.count;
    }

    public int gain(int p, int laws, int n, int what) {
        if (!isPerson(p) || !areLaws(laws) || !isDepth(n) || what < 0) {
            return NONE + BELOW_GAINS;
        }
        search.begin(laws, n, ALL_PERSONS, 0);
        search.finish();
        if (search.isSpent) {
            return SPENT + BELOW_GAINS;
        }
        int best = search.richest(p);
        if (what == 0) {
            return search.wealth(best, p);
        }
        if (what == 1) {
            return search.acts(best);
        }
        int code = search.code(best, what - 2);
        return code == NONE ? NONE + BELOW_GAINS : code;
    }

    public int stop(int k, int n, int what) {
        if (!isNever(k) || !isDepth(n) || !isWithin(what, 1)) {
            return NONE;
        }
        int sets = 1 << law.cures.size();
        for (int many = 0; many <= law.cures.size(); many++) {
            for (int set = 0; set < sets; set++) {
                if (Integer.bitCount(set) == many && stopsWith(k, n, set)) {
                    return what == 0 ? set : many;
                }
            }
        }
        return NONE;
    }

    public int past(int code) {
        return isWithin(code, CODES - 1) ? history.add(code) : NONE;
    }

    public int through(int row, int what) {
        if (!isRow(row) || rows[row].count == 0 || !isWithin(what, 1)) {
            return NONE;
        }
        int earliest = NONE;
        int by = NONE;
        for (int i = 0; i < RENAMINGS * RENAMINGS; i++) {
            int place = history.endOf(rows[row], i / RENAMINGS, i % RENAMINGS);
            if (place != NONE && (earliest == NONE || place < earliest)) {
                earliest = place;
                by = i;
            }
        }
        if (earliest == NONE || what == 0) {
            return earliest;
        }
        return 1000 * digits(by / RENAMINGS) + digits(by % RENAMINGS);
    }

    private static boolean isWithin(int v, int most) {
        return v >= 0 && v <= most;
    }

    private static boolean isPerson(int p) {
        return p >= 0 && p < PERSONS;
    }

    private static boolean isThing(int t) {
        return t >= 0 && t < THINGS;
    }

    private static boolean arePair(int p, int q) {
        return isPerson(p) && isPerson(q) && p != q;
    }

    private static boolean isRow(int row) {
        return row >= 0 && row < ROWS;
    }

    private static boolean areLaws(int laws) {
        return laws >= 1 && laws <= BOTH;
    }

    private static boolean isDepth(int n) {
        return n >= 0 && n <= MOST_DEEP;
    }

    private boolean isNever(int k) {
        return k >= 0 && k < law.nevers.size();
    }

    /** What a PERSON or a THING becomes by a renaming; nobody stays nobody. */
    private static int become(int renaming, int who) {
        boolean isOne = renaming >= 0 && renaming < RENAMINGS && who >= 0 && who < 3;
        return isOne ? BECOME[3 * renaming + who] : NOBODY;
    }

    private static int digits(int renaming) {
        return 100 * become(renaming, 0) + 10 * become(renaming, 1) + become(renaming, 2);
    }

    private static int doerOf(int code) {
        return code >> 4 & 3;
    }

    private static int otherOf(int code) {
        return code >> 2 & 3;
    }

    private static int thingOf(int code) {
        return code & 3;
    }

    private void feedFour(int four) {
        for (int shift = 24; shift >= 0; shift -= 8) {
            if (tapeLength < tape.length) {
                tape[tapeLength] = four >>> shift & 255;
                tapeLength++;
            }
        }
    }

    /** The TAPE goes to the reader, and is empty whatever comes of it. */
    private void takeTape() {
        reader.open(tape, tapeLength);
        tapeLength = 0;
    }

    /** 1 or 0; SPENT if the SEARCH was SPENT without a HOLE. */
    private int hasHole(int k, int laws, int n) {
        search.begin(laws, n, ALL_PERSONS, 0);
        if (search.first(k) != NONE) {
            return 1;
        }
        return search.isSpent ? SPENT : 0;
    }

    private boolean stopsWith(int k, int n, int cures) {
        for (int i = 0; i < ROWS; i++) {
            if (rows[i].isHonest && court.follow(rows[i], beginning, BOTH, cures) < rows[i].count) {
                return false;
            }
        }
        search.begin(BOTH, n, ALL_PERSONS, cures);
        return search.first(k) == NONE && !search.isSpent;
    }

    /** The TOKENS of a text, in their order. */
    private static final class Tokens {
        static final int END = 0;
        static final int NO_TOKEN = 1;
        static final int NUMBER = 2;
        static final int NAME = 3;
        static final int ACT = 4;
        static final int NEED = 5;
        static final int MAKE = 6;
        static final int COIN = 7;
        static final int DEBT = 8;
        static final int OWN = 9;
        static final int NO_ONE = 10;
        static final int WED = 11;
        static final int PART = 12;
        static final int ADOPT = 13;
        static final int DAY = 14;
        static final int OR = 15;
        static final int AND = 16;
        static final int NOT = 17;
        static final int CHILD = 18;
        static final int OWNS = 19;
        static final int HAS_THINGS = 20;
        static final int A = 21;
        static final int B = 22;
        static final int SEMICOLON = 23;
        static final int PLUS = 24;
        static final int MINUS = 25;
        static final int TIMES = 26;
        static final int OPEN = 27;
        static final int CLOSE = 28;
        static final int LESS = 29;
        static final int SAME = 30;
        static final int MORE = 31;
        /** How many kinds there are: an operation has its kind below this, and its operand above. */
        static final int KINDS = 32;
        static final int HOW_MANY_WORDS = 19;
        /** The words of the kinds from ACT on, each with a blank behind it. */
        static final String WORDS =
            "act need make coin debt own none wed part adopt day or and not child owns things a b ";
        /** The signs of the kinds from SEMICOLON on. */
        static final String SIGNS = ";+-*()<=>";
        static final int LONGEST_NAME = 8;
        static final int LONGEST_NUMBER = 3;

        private final long[] words = new long[HOW_MANY_WORDS];
        final int[] kinds = new int[MOST_BYTES + 1];
        final int[] places = new int[MOST_BYTES + 1];
        /** Of a NUMBER its value; of a word its letters, packed. */
        final long[] values = new long[MOST_BYTES + 1];
        int count = 0;

        Tokens() {
            int word = 0;
            for (int i = 0; i < WORDS.length(); i++) {
                int sign = WORDS.charAt(i);
                if (!isLetter(sign)) {
                    word++;
                } else if (word < words.length) {
                    words[word] = withLetter(words[word], sign);
                }
            }
        }

        void read(int[] text, int length) {
            count = 0;
            int bytes = Math.min(length, text.length);
            int at = 0;
            for (int turn = 0; turn < bytes && at < bytes; turn++) {
                int sign = text[at];
                int behind = at + 1;
                if (isLetter(sign)) {
                    behind = readWord(text, at, bytes);
                } else if (isDigit(sign)) {
                    behind = readNumber(text, at, bytes);
                } else if (sign != ' ' && sign != '\n') {
                    int which = SIGNS.indexOf((char) sign);
                    add(which < 0 ? NO_TOKEN : SEMICOLON + which, at, 0);
                }
                at = behind;
            }
            add(END, bytes, 0);
        }

        private int readWord(int[] text, int from, int bytes) {
            long packed = 0;
            int at = from;
            for (; at < bytes && isLetter(text[at]); at++) {
                if (at - from < LONGEST_NAME) {
                    packed = withLetter(packed, text[at]);
                }
            }
            add(kindOfWord(packed, at - from), from, packed);
            return at;
        }

        private int readNumber(int[] text, int from, int bytes) {
            int value = 0;
            int at = from;
            for (; at < bytes && isDigit(text[at]); at++) {
                value = 10 * value + text[at] - '0';
            }
            add(at - from <= LONGEST_NUMBER ? NUMBER : NO_TOKEN, from, value);
            return at;
        }

        private int kindOfWord(long packed, int length) {
            if (length > LONGEST_NAME) {
                return NO_TOKEN;
            }
            for (int i = 0; i < words.length; i++) {
                if (words[i] == packed) {
                    return ACT + i;
                }
            }
            return length > 1 ? NAME : NO_TOKEN;
        }

        private void add(int kind, int place, long value) {
            if (count < kinds.length) {
                kinds[count] = kind;
                places[count] = place;
                values[count] = value;
                count++;
            }
        }

        private static boolean isLetter(int sign) {
            return sign >= 'a' && sign <= 'z';
        }

        private static boolean isDigit(int sign) {
            return sign >= '0' && sign <= '9';
        }

        private static long withLetter(long packed, int letter) {
            return packed * 32 + letter - 'a' + 1;
        }
    }

    /** Reads TEXTS; what it reads of B and E are operations, each behind its operands. */
    private static final class Reader {
        private final Tokens tokens = new Tokens();
        private int next = 0;
        private final int[] ops = new int[MOST_BYTES];
        private int length = 0;
        private boolean otherStands = false;
        private boolean thingStands = false;
        final ArrayList<Act> acts = new ArrayList<>();
        int fault = 0;
        int faultPlace = NONE;

        void open(int[] text, int bytes) {
            tokens.read(text, bytes);
            next = 0;
            length = 0;
            acts.clear();
            fault = 0;
            faultPlace = NONE;
        }

        int kind() {
            return next < tokens.count ? tokens.kinds[next] : Tokens.END;
        }

        private long value() {
            return next < tokens.count ? tokens.values[next] : 0;
        }

        boolean isAtEnd() {
            return kind() == Tokens.END || refuse(CANT_STAND);
        }

        /** What was read last, since the operations were begun anew. */
        Clause clause(int kind, int first) {
            return new Clause(kind, first, Arrays.copyOf(ops, length));
        }

        /** Reads an ACT from its keyword on. */
        boolean readAct() {
            if (acts.size() >= MOST_ACTS) {
                return refuse(TOO_MANY);
            }
            next++;
            if (kind() != Tokens.NAME) {
                return refuse(CANT_STAND);
            }
            Act act = new Act(value());
            if (isNamed(act.name)) {
                return refuse(NAME_TWICE);
            }
            next++;
            otherStands = false;
            thingStands = false;
            // one turn more than there can be clauses: that one is refused
            for (int i = 0; i <= MOST_NEEDS + MOST_MAKES && kind() != Tokens.SEMICOLON; i++) {
                if (kind() != Tokens.NEED) {
                    if (!readMake(act)) {
                        return false;
                    }
                    continue;
                }
                if (act.needs.size() >= MOST_NEEDS) {
                    return refuse(TOO_MANY);
                }
                next++;
                length = 0;
                if (!readEither(0)) {
                    return false;
                }
                act.needs.add(clause(Tokens.NEED, 0));
            }
            next++;
            act.withOther = otherStands;
            act.withThing = thingStands;
            acts.add(act);
            return true;
        }

        private boolean isNamed(long name) {
            for (int i = 0; i < acts.size(); i++) {
                if (acts.get(i).name == name) {
                    return true;
                }
            }
            return false;
        }

        private boolean readMake(Act act) {
            if (kind() != Tokens.MAKE) {
                return refuse(CANT_STAND);
            }
            if (act.makes.size() >= MOST_MAKES) {
                return refuse(TOO_MANY);
            }
            next++;
            length = 0;
            int kind = kind();
            int first = readChanged(kind);
            if (first == NONE) {
                return false;
            }
            boolean hasAmount = kind == Tokens.COIN || kind == Tokens.DEBT || kind == Tokens.DAY;
            if (hasAmount && !readAmount(kind != Tokens.DAY)) {
                return false;
            }
            act.makes.add(clause(kind, first));
            return true;
        }

        /** Reads what a CHANGE is of: its first P (0 a, 1 b, 2 none); NONE at a FAULT. */
        private int readChanged(int kind) {
            switch (kind) {
                case Tokens.DAY:
                    next++;
                    return 0;
                case Tokens.OWN:
                    next++;
                    thingStands = true;
                    if (kind() == Tokens.NO_ONE) {
                        next++;
                        return 2;
                    }
                    return readPersons(1);
                case Tokens.COIN:
                    next++;
                    return readPersons(1);
                case Tokens.DEBT:
                case Tokens.WED:
                case Tokens.PART:
                case Tokens.ADOPT:
                    next++;
                    return readPersons(2);
                default:
                    refuse(CANT_STAND);
                    return NONE;
            }
        }

        /** Reads + E or - E as what is added: 0 - E for the latter. */
        private boolean readAmount(boolean orLess) {
            boolean isLess = orLess && kind() == Tokens.MINUS;
            if (kind() != Tokens.PLUS && !isLess) {
                return refuse(CANT_STAND);
            }
            next++;
            if (isLess) {
                emit(Tokens.NUMBER, 0);
            }
            if (!readSum()) {
                return false;
            }
            if (isLess) {
                emit(Tokens.MINUS, 0);
            }
            return true;
        }

        /** Reads a text that is a B. */
        boolean readCondition() {
            return readEither(0) && isAtEnd();
        }

        /** Reads B inside of so many open ( and not. */
        private boolean readEither(int open) {
            if (!readClaim(open)) {
                return false;
            }
            // an or waits for all that and joins behind it
            boolean orWaits = false;
            for (int i = 0; i < tokens.count && (kind() == Tokens.AND || kind() == Tokens.OR); i++) {
                boolean isAnd = kind() == Tokens.AND;
                next++;
                if (!isAnd && orWaits) {
                    emit(Tokens.OR, 0);
                }
                orWaits = orWaits || !isAnd;
                if (!readClaim(open)) {
                    return false;
                }
                if (isAnd) {
                    emit(Tokens.AND, 0);
                }
            }
            if (orWaits) {
                emit(Tokens.OR, 0);
            }
            return true;
        }

        /** Reads C inside of so many open ( and not. */
        private boolean readClaim(int open) {
            int kind = kind();
            if (kind == Tokens.NOT || kind == Tokens.OPEN) {
                return open < MOST_OPEN ? readOpened(kind, open + 1) : refuse(TOO_MANY);
            }
            if (!readSum()) {
                return false;
            }
            int sign = kind();
            if (sign != Tokens.LESS && sign != Tokens.SAME && sign != Tokens.MORE) {
                return refuse(CANT_STAND);
            }
            next++;
            if (!readSum()) {
                return false;
            }
            emit(sign, 0);
            return true;
        }

        /** Reads not C or ( B ), which is open then too. */
        private boolean readOpened(int kind, int open) {
            next++;
            if (kind == Tokens.NOT) {
                if (!readClaim(open)) {
                    return false;
                }
                emit(Tokens.NOT, 0);
                return true;
            }
            if (!readEither(open)) {
                return false;
            }
            if (kind() != Tokens.CLOSE) {
                return refuse(CANT_STAND);
            }
            next++;
            return true;
        }

        /** Reads E. */
        private boolean readSum() {
            if (!readOperand()) {
                return false;
            }
            // a + or - waits for all that * joins behind it
            int waits = NONE;
            for (int i = 0; i < tokens.count; i++) {
                int sign = kind();
                if (sign != Tokens.PLUS && sign != Tokens.MINUS && sign != Tokens.TIMES) {
                    break;
                }
                next++;
                if (sign != Tokens.TIMES) {
                    if (waits != NONE) {
                        emit(waits, 0);
                    }
                    waits = sign;
                }
                if (!readOperand()) {
                    return false;
                }
                if (sign == Tokens.TIMES) {
                    emit(Tokens.TIMES, 0);
                }
            }
            if (waits != NONE) {
                emit(waits, 0);
            }
            return true;
        }

        /** Reads U. */
        private boolean readOperand() {
            int kind = kind();
            int operand = 0;
            switch (kind) {
                case Tokens.NUMBER:
                    operand = (int) value();
                    next++;
                    break;
                case Tokens.DAY:
                    next++;
                    break;
                case Tokens.COIN:
                case Tokens.OWNS:
                case Tokens.HAS_THINGS:
                    next++;
                    operand = readPersons(1);
                    break;
                case Tokens.DEBT:
                case Tokens.WED:
                case Tokens.CHILD:
                    next++;
                    operand = readPersons(2);
                    break;
                default:
                    return refuse(CANT_STAND);
            }
            if (operand == NONE) {
                return false;
            }
            thingStands = thingStands || kind == Tokens.OWNS;
            emit(kind, operand);
            return true;
        }

        /** Reads one P or two unlike ones: the first (0 a, 1 b); NONE at a FAULT. */
        private int readPersons(int many) {
            int first = kind() - Tokens.A;
            if (first != 0 && first != 1) {
                refuse(CANT_STAND);
                return NONE;
            }
            next++;
            otherStands = otherStands || first == 1 || many == 2;
            if (many == 1) {
                return first;
            }
            if (kind() != (first == 0 ? Tokens.B : Tokens.A)) {
                refuse(CANT_STAND);
                return NONE;
            }
            next++;
            return first;
        }

        private void emit(int kind, int operand) {
            if (length < ops.length) {
                ops[length] = kind + Tokens.KINDS * operand;
                length++;
            }
        }

        /** A FAULT at the next token. */
        private boolean refuse(int what) {
            fault = what;
            faultPlace = next < tokens.count ? tokens.places[next] : NONE;
            return false;
        }
    }

    /** A need or a make: what it is, its first P (0 a, 1 b, 2 none), and the operations of its B or E. */
    private static final class Clause {
        final int kind;
        final int first;
        final int[] ops;

        Clause(int kind, int first, int[] ops) {
            this.kind = kind;
            this.first = first;
            this.ops = ops;
        }
    }

    /** A need more of the ACT with this number. */
    private static final class Cure {
        final int actNumber;
        final Clause need;

        Cure(int actNumber, Clause need) {
            this.actNumber = actNumber;
            this.need = need;
        }
    }

    /** An ACT of a STATUTE. */
    private static final class Act {
        final long name;
        final ArrayList<Clause> needs = new ArrayList<>();
        final ArrayList<Clause> makes = new ArrayList<>();
        boolean withOther = false;
        boolean withThing = false;

        Act(long name) {
            this.name = name;
        }
    }

    /** The ACTS of both STATUTES, by their numbers; NEVERS and CURES. */
    private static final class Law {
        private final Act[] acts = new Act[STATUTES * MOST_ACTS];
        final ArrayList<Clause> nevers = new ArrayList<>();
        final ArrayList<Cure> cures = new ArrayList<>();

        void enact(int statute, ArrayList<Act> read) {
            for (int i = 0; i < MOST_ACTS; i++) {
                int number = MOST_ACTS * statute + i;
                if (number >= 0 && number < acts.length) {
                    acts[number] = i < read.size() ? read.get(i) : null;
                }
            }
        }

        /** The ACT with this number, or null. */
        Act actAt(int number) {
            return number >= 0 && number < acts.length ? acts[number] : null;
        }

        /** The ACT of a CODE, or null if it is none by these LAWS. */
        Act actOf(int code, int laws) {
            int number = code / CODES_OF_ACT;
            if ((laws >> number / MOST_ACTS & 1) == 0) {
                return null;
            }
            Act act = actAt(number);
            if (act == null) {
                return null;
            }
            int a = doerOf(code);
            int b = otherOf(code);
            boolean fits = isPerson(a)
                && (act.withOther ? isPerson(b) && b != a : b == NOBODY)
                && act.withThing == isThing(thingOf(code));
            return fits ? act : null;
        }
    }

    /** A STATE: its numbers at the places by which after() asks for them. */
    private static final class State {
        static final int DEBT = 10;
        static final int WED = 20;
        static final int CHILD = 30;
        static final int OWNER = 40;
        static final int DAY = 50;

        private final int[] at = new int[DAY + 1];

        State() {
            for (int t = 0; t < THINGS; t++) {
                at[OWNER + t] = NOBODY;
            }
        }

        static boolean has(int what) {
            if (isPerson(what) || isThing(what - OWNER) || what == DAY) {
                return true;
            }
            if (what < DEBT || what >= OWNER) {
                return false;
            }
            int pair = what % 10;
            return arePair(pair / PERSONS, pair % PERSONS);
        }

        int get(int what) {
            return what >= 0 && what < at.length ? at[what] : 0;
        }

        void set(int what, int value) {
            if (what >= 0 && what < at.length) {
                at[what] = value;
            }
        }

        void copy(State other) {
            System.arraycopy(other.at, 0, at, 0, at.length);
        }

        int thingsOf(int p) {
            int many = 0;
            for (int t = 0; t < THINGS; t++) {
                if (at[OWNER + t] == p) {
                    many++;
                }
            }
            return many;
        }

        /** One make: of p, with q or t, more by so much. */
        void change(int kind, int p, int q, int t, int more) {
            int pair = PERSONS * p + q;
            switch (kind) {
                case Tokens.COIN:
                    set(p, get(p) + more);
                    break;
                case Tokens.DEBT:
                    set(DEBT + pair, get(DEBT + pair) + more);
                    break;
                case Tokens.OWN:
                    set(OWNER + t, p);
                    break;
                case Tokens.WED:
                case Tokens.PART:
                    set(WED + pair, kind == Tokens.WED ? 1 : 0);
                    set(WED + PERSONS * q + p, kind == Tokens.WED ? 1 : 0);
                    break;
                case Tokens.ADOPT:
                    set(CHILD + pair, 1);
                    break;
                default:
                    set(DAY, get(DAY) + more);
                    break;
            }
        }

        boolean isInBounds() {
            for (int p = 0; p < PERSONS; p++) {
                if (!isWithin(at[p], MOST_COIN)) {
                    return false;
                }
            }
            for (int pair = 0; pair < PERSONS * PERSONS; pair++) {
                if (!isWithin(at[DEBT + pair], MOST_DEBT)) {
                    return false;
                }
            }
            return isWithin(at[DAY], MOST_DAY);
        }

        /** All numbers in 52 bits, of the STATE that this one is by a renaming of PERSONS and one of THINGS. */
        long packed(int persons, int things) {
            long bits = at[DAY];
            for (int t = 0; t < THINGS; t++) {
                bits |= (long) become(persons, at[OWNER + t]) << ownerShift(become(things, t));
            }
            for (int p = 0; p < PERSONS; p++) {
                int newP = become(persons, p);
                bits |= (long) at[p] << coinShift(newP);
                for (int q = 0; q < PERSONS; q++) {
                    if (q != p) {
                        int pair = PERSONS * p + q;
                        int three = at[DEBT + pair] | at[WED + pair] << 3 | at[CHILD + pair] << 4;
                        bits |= (long) three << pairShift(newP, become(persons, q));
                    }
                }
            }
            return bits;
        }

        void unpack(long bits) {
            at[DAY] = (int) (bits & 15);
            for (int t = 0; t < THINGS; t++) {
                at[OWNER + t] = (int) (bits >>> ownerShift(t) & 3);
            }
            for (int p = 0; p < PERSONS; p++) {
                at[p] = (int) (bits >>> coinShift(p) & 15);
                for (int q = 0; q < PERSONS; q++) {
                    if (q != p) {
                        int pair = PERSONS * p + q;
                        int three = (int) (bits >>> pairShift(p, q) & 31);
                        at[DEBT + pair] = three & 7;
                        at[WED + pair] = three >> 3 & 1;
                        at[CHILD + pair] = three >> 4;
                    }
                }
            }
        }

        private static int coinShift(int p) {
            return 4 + 4 * p;
        }

        private static int ownerShift(int t) {
            return 16 + 2 * t;
        }

        private static int pairShift(int p, int q) {
            return 22 + 5 * (2 * p + (q > p ? q - 1 : q));
        }
    }

    /** Reckons operations in a STATE, for an a, a b and a t. */
    private static final class Reckoner {
        /** Far above what 8 open ( and not can make wait: two each, and four in an E. */
        private static final int MOST_WAITING = 40;

        private final int[] waiting = new int[MOST_WAITING];
        private State state = new State();
        private int a = 0;
        private int b = NOBODY;
        private int t = NOBODY;

        void look(State in, int code) {
            state = in;
            a = doerOf(code);
            b = otherOf(code);
            t = thingOf(code);
        }

        int person(int which) {
            if (which == 0) {
                return a;
            }
            return which == 1 ? b : NOBODY;
        }

        /** Of an E its number, of a B 1 if it is so, else 0. */
        int value(Clause clause) {
            int many = 0;
            for (int i = 0; i < clause.ops.length; i++) {
                int op = clause.ops[i];
                int kind = op % Tokens.KINDS;
                if (isJoint(kind)) {
                    many--;
                    if (many > 0) {
                        waiting[many - 1] = joined(kind, waiting[many - 1], waiting[many]);
                    }
                } else if (kind == Tokens.NOT) {
                    if (many > 0) {
                        waiting[many - 1] = 1 - waiting[many - 1];
                    }
                } else if (many >= 0 && many < waiting.length) {
                    waiting[many] = operand(kind, op / Tokens.KINDS);
                    many++;
                }
            }
            return many > 0 ? waiting[0] : 0;
        }

        /** The number of a U; 0 if it has a b or t that is nobody. */
        private int operand(int kind, int operand) {
            if (kind == Tokens.NUMBER) {
                return operand;
            }
            if (kind == Tokens.DAY) {
                return state.get(State.DAY);
            }
            int p = operand == 0 ? a : b;
            int q = operand == 0 ? b : a;
            if (p == NOBODY) {
                return 0;
            }
            switch (kind) {
                case Tokens.COIN:
                    return state.get(p);
                case Tokens.OWNS:
                    return t != NOBODY && state.get(State.OWNER + t) == p ? 1 : 0;
                case Tokens.HAS_THINGS:
                    return state.thingsOf(p);
                case Tokens.DEBT:
                    return q == NOBODY ? 0 : state.get(State.DEBT + PERSONS * p + q);
                case Tokens.WED:
                    return q == NOBODY ? 0 : state.get(State.WED + PERSONS * p + q);
                default:
                    return q == NOBODY ? 0 : state.get(State.CHILD + PERSONS * p + q);
            }
        }

        private static boolean isJoint(int kind) {
            return kind == Tokens.OR || kind == Tokens.AND || kind >= Tokens.PLUS;
        }

        private static int joined(int kind, int left, int right) {
            switch (kind) {
                case Tokens.OR:
                    return left | right;
                case Tokens.AND:
                    return left & right;
                case Tokens.PLUS:
                    return left + right;
                case Tokens.MINUS:
                    return left - right;
                case Tokens.TIMES:
                    return left * right;
                case Tokens.LESS:
                    return left < right ? 1 : 0;
                case Tokens.SAME:
                    return left == right ? 1 : 0;
                default:
                    return left > right ? 1 : 0;
            }
        }
    }

    /** Says what is LAWFUL, and what a STATE is. */
    private static final class Court {
        final Law law;
        private final Reckoner reckoner = new Reckoner();
        /** The STATE behind the CODE that was LAWFUL last. */
        final State next = new State();
        /** The STATE behind the part of a ROW that was LAWFUL last. */
        final State here = new State();
        int reason = NONE;

        Court(Law law) {
            this.law = law;
        }

        /** Why a CODE is not LAWFUL, as lawful() tells it; NONE if it is, and then next is the STATE behind it. */
        int why(State now, int code, int laws, int cures) {
            Act act = law.actOf(code, laws);
            if (act == null) {
                return NO_CODE;
            }
            reckoner.look(now, code);
            for (int i = 0; i < act.needs.size(); i++) {
                if (reckoner.value(act.needs.get(i)) == 0) {
                    return i;
                }
            }
            for (int i = 0; i < law.cures.size(); i++) {
                Cure cure = law.cures.get(i);
                boolean counts = (cures >> i & 1) == 1 && cure.actNumber == code / CODES_OF_ACT;
                if (counts && reckoner.value(cure.need) == 0) {
                    return FIRST_CURE + i;
                }
            }
            next.copy(now);
            for (int i = 0; i < act.makes.size(); i++) {
                Clause make = act.makes.get(i);
                int p = reckoner.person(make.first);
                int q = reckoner.person(1 - make.first);
                next.change(make.kind, p, q, thingOf(code), reckoner.value(make));
            }
            return next.isInBounds() ? NONE : BOUNDS;
        }

        /** How many CODES of a ROW are LAWFUL; the reason is why the next one is not. */
        int follow(Row row, State from, int laws, int cures) {
            here.copy(from);
            reason = NONE;
            for (int i = 0; i < row.count; i++) {
                reason = why(here, row.get(i), laws, cures);
                if (reason != NONE) {
                    return i;
                }
                here.copy(next);
            }
            return row.count;
        }

        /** Is a STATE what never was meant to be, for some a, b and t. */
        boolean isNever(State state, Clause never) {
            for (int a = 0; a < PERSONS; a++) {
                for (int b = 0; b < PERSONS; b++) {
                    for (int t = 0; t < THINGS; t++) {
                        reckoner.look(state, 16 * a + 4 * b + t);
                        if (a != b && reckoner.value(never) != 0) {
                            return true;
                        }
                    }
                }
            }
            return false;
        }
    }

    /** A SEARCH. It goes only as far as it is asked to, and is kept until another one begins. */
    private static final class Search {
        private static final int SLOTS = 1024;

        private final Court court;
        private final State beginning;
        private final State now = new State();
        private final long[] states = new long[MOST_MET];
        private final int[] depths = new int[MOST_MET];
        private final int[] from = new int[MOST_MET];
        private final int[] by = new int[MOST_MET];
        /** By a STATE's scattered place, its number and one more; 0 where none is. */
        private final int[] slots = new int[SLOTS];
        private final long[] names = new long[MOST_MET];
        private final int[] codes = new int[MOST_CODES];
        private int codeCount = 0;
        private int laws = 0;
        private int most = 0;
        private int persons = 0;
        private int cures = 0;
        private int done = 0;
        private boolean isKnown = false;
        int count = 0;
        boolean isSpent = false;

        Search(Court court, State beginning) {
            this.court = court;
            this.beginning = beginning;
        }

        /** What was MET no longer holds: THE BEGINNING, a STATUTE or CURES are others. */
        void forget() {
            isKnown = false;
        }

        void begin(int byLaws, int upTo, int ofPersons, int withCures) {
            boolean isSame = byLaws == laws && upTo == most && ofPersons == persons && withCures == cures;
            if (isKnown && isSame) {
                return;
            }
            isKnown = true;
            laws = byLaws;
            most = upTo;
            persons = ofPersons;
            cures = withCures;
            listCodes();
            Arrays.fill(slots, 0);
            count = 0;
            done = 0;
            isSpent = false;
            meet(beginning.packed(0, 0), NONE, NONE);
        }

        private void listCodes() {
            codeCount = 0;
            for (int code = 0; code < CODES; code++) {
                int b = otherOf(code);
                boolean isOfPersons = (persons >> doerOf(code) & 1) == 1 && (b == NOBODY || (persons >> b & 1) == 1);
                if (isOfPersons && codeCount < codes.length && court.law.actOf(code, laws) != null) {
                    codes[codeCount] = code;
                    codeCount++;
                }
            }
        }

        private void meet(long state, int before, int code) {
            int slot = slotOf(state);
            if (slots[slot] != 0) {
                return;
            }
            if (count >= MOST_MET) {
                isSpent = true;
                return;
            }
            states[count] = state;
            from[count] = before;
            by[count] = code;
            depths[count] = before == NONE ? 0 : acts(before) + 1;
            count++;
            slots[slot] = count;
        }

        /** Where a STATE is, or would be: there are far more slots than STATES. */
        private int slotOf(long state) {
            int first = (int) (state * 0x9E3779B97F4A7C15L >>> 54);
            for (int i = 0; i < SLOTS; i++) {
                int slot = first + i & SLOTS - 1;
                int number = slots[slot] - 1;
                if (number < 0 || number >= MOST_MET || states[number] == state) {
                    return slot;
                }
            }
            return 0;
        }

        /** All CODES of the next STATE that has been MET; false if there is none with less than n ACTS. */
        private boolean grow() {
            if (isSpent || done >= count || depths[done] >= most) {
                return false;
            }
            now.unpack(states[done]);
            for (int i = 0; i < codeCount && !isSpent; i++) {
                if (court.why(now, codes[i], laws, cures) == NONE) {
                    meet(court.next.packed(0, 0), done, codes[i]);
                }
            }
            done++;
            return true;
        }

        void finish() {
            boolean isMore = true;
            for (int i = 0; i <= MOST_MET && isMore; i++) {
                isMore = grow();
            }
        }

        /** The first STATE that is a NEVER; NONE, with all of the SEARCH done, if there is none. */
        int first(int k) {
            if (k < 0 || k >= court.law.nevers.size()) {
                return NONE;
            }
            Clause never = court.law.nevers.get(k);
            int looked = 0;
            for (int turn = 0; turn <= MOST_MET; turn++) {
                for (; looked < count; looked++) {
                    load(looked);
                    if (court.isNever(now, never)) {
                        return looked;
                    }
                }
                if (!grow()) {
                    return NONE;
                }
            }
            return NONE;
        }

        private void load(int i) {
            if (i >= 0 && i < count) {
                now.unpack(states[i]);
            }
        }

        /** How many ACTS a STATE was MET with. */
        int acts(int i) {
            return i >= 0 && i < count ? depths[i] : 0;
        }

        /** CODE k of THE ROW of a STATE; NONE if there is no such one. */
        int code(int i, int k) {
            if (k < 0 || k >= acts(i)) {
                return NONE;
            }
            int at = i;
            for (int left = acts(i) - 1 - k; left > 0 && at >= 0 && at < count; left--) {
                at = from[at];
            }
            return at >= 0 && at < count ? by[at] : NONE;
        }

        /** COIN less all DEBTS. */
        int wealth(int i, int p) {
            load(i);
            int left = now.get(p);
            for (int q = 0; q < PERSONS; q++) {
                if (q != p) {
                    left -= now.get(State.DEBT + PERSONS * p + q);
                }
            }
            return left;
        }

        /** The first of the STATES with the most wealth. */
        int richest(int p) {
            int best = 0;
            int highest = wealth(0, p);
            for (int i = 1; i < count && i < MOST_MET; i++) {
                int here = wealth(i, p);
                if (here > highest) {
                    highest = here;
                    best = i;
                }
            }
            return best;
        }

        /** How many STATES there are, of those ALIKE but for names just one. */
        int unlike() {
            int kinds = 0;
            for (int i = 0; i < count && i < MOST_MET; i++) {
                load(i);
                long name = leastName();
                boolean isNew = true;
                for (int j = 0; j < kinds && isNew; j++) {
                    isNew = names[j] != name;
                }
                if (isNew) {
                    names[kinds] = name;
                    kinds++;
                }
            }
            return kinds;
        }

        /** The least that the STATE is by any renaming: those that are ALIKE have it alike. */
        private long leastName() {
            long least = now.packed(0, 0);
            for (int i = 1; i < RENAMINGS * RENAMINGS; i++) {
                least = Math.min(least, now.packed(i / RENAMINGS, i % RENAMINGS));
            }
            return least;
        }
    }

    /** A row of CODES. */
    private static final class Row {
        private final int[] codes;
        int count = 0;
        boolean isHonest = false;

        Row(int most) {
            codes = new int[Math.max(most, 0)];
        }

        int get(int i) {
            return i >= 0 && i < codes.length ? codes[i] : NONE;
        }

        /** How many it has then; NONE if it is full. */
        int add(int code) {
            if (count < 0 || count >= codes.length) {
                return NONE;
            }
            codes[count] = code;
            count++;
            return count;
        }

        /** Where a row that was so renamed ends first in this one, whatever stands between; NONE if it does not. */
        int endOf(Row other, int persons, int things) {
            int found = 0;
            for (int i = 0; i < count; i++) {
                if (found < other.count && get(i) == renamed(other.get(found), persons, things)) {
                    found++;
                    if (found == other.count) {
                        return i;
                    }
                }
            }
            return NONE;
        }

        private static int renamed(int code, int persons, int things) {
            int newA = become(persons, doerOf(code));
            int newB = become(persons, otherOf(code));
            int newT = become(things, thingOf(code));
            return code / CODES_OF_ACT * CODES_OF_ACT + 16 * newA + 4 * newB + newT;
        }
    }
}
