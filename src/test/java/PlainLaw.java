import java.util.ArrayList;
import java.util.Arrays;
import java.util.HashSet;
import java.util.LinkedHashMap;
import java.util.List;
import java.util.Map;
import java.util.Set;
import java.util.TreeSet;
import java.util.regex.Matcher;
import java.util.regex.Pattern;

/** The document once more, as plainly as it can be said and by other means, to hold random runs against. */
final class PlainLaw {
    static final int NONE = -1;
    static final int SPENT = -2;
    static final Set<String> KEYWORDS = new HashSet<>(Arrays.asList(
        "act", "need", "make", "coin", "debt", "own", "none", "wed", "part", "adopt", "day", "a", "b",
        "or", "and", "not", "child", "owns", "things"));
    static final int[][] ORDERS = {{0, 1, 2}, {0, 2, 1}, {1, 0, 2}, {1, 2, 0}, {2, 0, 1}, {2, 1, 0}};

    /** A STATE as a plain object. */
    static final class World {
        int[] coin = new int[3];
        int[][] debt = new int[3][3];
        boolean[][] child = new boolean[3][3];
        boolean[][] wed = new boolean[3][3];
        int[] owner = {3, 3, 3};
        int day;

        World copy() {
            World w = new World();
            w.coin = coin.clone();
            w.owner = owner.clone();
            w.day = day;
            for (int p = 0; p < 3; p++) {
                w.debt[p] = debt[p].clone();
                w.child[p] = child[p].clone();
                w.wed[p] = wed[p].clone();
            }
            return w;
        }

        World renamed(int[] persons, int[] things) {
            World w = new World();
            w.day = day;
            for (int p = 0; p < 3; p++) {
                w.coin[persons[p]] = coin[p];
                for (int q = 0; q < 3; q++) {
                    w.debt[persons[p]][persons[q]] = debt[p][q];
                    w.child[persons[p]][persons[q]] = child[p][q];
                    w.wed[persons[p]][persons[q]] = wed[p][q];
                }
            }
            for (int t = 0; t < 3; t++) {
                w.owner[things[t]] = owner[t] == 3 ? 3 : persons[owner[t]];
            }
            return w;
        }

        String name() {
            return Arrays.toString(coin) + Arrays.deepToString(debt) + Arrays.deepToString(child)
                + Arrays.deepToString(wed) + Arrays.toString(owner) + day;
        }

        boolean bounded() {
            for (int p = 0; p < 3; p++) {
                if (coin[p] < 0 || coin[p] > 15) {
                    return false;
                }
                for (int q = 0; q < 3; q++) {
                    if (debt[p][q] < 0 || debt[p][q] > 7) {
                        return false;
                    }
                }
            }
            return day >= 0 && day <= 15;
        }
    }

    /** What somebody does: a, b, t. */
    record Who(int a, int b, int t) {
        int of(String letter) {
            return letter.equals("a") ? a : b;
        }
    }

    /** A part of a text that has a number in a STATE (1 and 0 for what is so or not). */
    interface Tree {
        int in(World w, Who who);
    }

    record Change(String kind, String p, String q, boolean less, Tree amount) { }

    static final class Deed {
        String name;
        List<Tree> needs = new ArrayList<>();
        List<Change> makes = new ArrayList<>();
        boolean b;
        boolean t;
    }

    record Remedy(int act, Tree need) { }

    record Token(String text, int place) { }

    static final class Fault extends RuntimeException {
        private static final long serialVersionUID = 1;
        final int kind;
        final int place;

        Fault(int kind, int place) {
            this.kind = kind;
            this.place = place;
        }
    }

    /** Reads by descent into trees. */
    static final class Parser {
        final List<Token> tokens = new ArrayList<>();
        int at = 0;
        int open = 0;
        boolean b;
        boolean t;

        Parser(String text) {
            Matcher m = Pattern.compile("[a-z]+|[0-9]+|[^ \n]", Pattern.DOTALL).matcher(text);
            while (m.find()) {
                tokens.add(new Token(m.group(), m.start()));
            }
            tokens.add(new Token("", text.length()));
        }

        String see() {
            return tokens.get(at).text();
        }

        Fault wrong(int kind) {
            return new Fault(kind, tokens.get(at).place());
        }

        boolean has(String... any) {
            return Arrays.asList(any).contains(see());
        }

        String take(String... any) {
            if (!has(any)) {
                throw wrong(1);
            }
            return tokens.get(at++).text();
        }

        List<Deed> statute() {
            List<Deed> deeds = new ArrayList<>();
            while (has("act")) {
                if (deeds.size() == 6) {
                    throw wrong(3);
                }
                at++;
                Deed d = new Deed();
                d.name = see();
                if (!d.name.matches("[a-z]{2,8}") || KEYWORDS.contains(d.name)) {
                    throw wrong(1);
                }
                for (Deed other : deeds) {
                    if (other.name.equals(d.name)) {
                        throw wrong(2);
                    }
                }
                at++;
                b = false;
                t = false;
                while (has("need", "make")) {
                    if (has("need")) {
                        if (d.needs.size() == 4) {
                            throw wrong(3);
                        }
                        at++;
                        d.needs.add(either());
                    } else {
                        if (d.makes.size() == 6) {
                            throw wrong(3);
                        }
                        at++;
                        d.makes.add(change());
                    }
                }
                take(";");
                d.b = b;
                d.t = t;
                deeds.add(d);
            }
            take("");
            return deeds;
        }

        Tree whole() {
            Tree tree = either();
            take("");
            return tree;
        }

        String person() {
            String p = take("a", "b");
            b |= p.equals("b");
            return p;
        }

        String unlike(String p) {
            String q = take(p.equals("a") ? "b" : "a");
            b = true;
            return q;
        }

        Change change() {
            String kind = take("coin", "debt", "own", "wed", "part", "adopt", "day");
            if (kind.equals("day")) {
                take("+");
                return new Change(kind, "", "", false, sum());
            }
            if (kind.equals("own")) {
                t = true;
                if (has("none")) {
                    at++;
                    return new Change(kind, "", "", false, null);
                }
                return new Change(kind, person(), "", false, null);
            }
            String p = person();
            String q = kind.equals("coin") ? "" : unlike(p);
            if (kind.equals("coin") || kind.equals("debt")) {
                boolean less = take("+", "-").equals("-");
                return new Change(kind, p, q, less, sum());
            }
            return new Change(kind, p, q, false, null);
        }

        Tree either() {
            Tree left = both();
            while (has("or")) {
                at++;
                Tree l = left;
                Tree r = both();
                left = (w, who) -> l.in(w, who) == 1 || r.in(w, who) == 1 ? 1 : 0;
            }
            return left;
        }

        Tree both() {
            Tree left = claim();
            while (has("and")) {
                at++;
                Tree l = left;
                Tree r = claim();
                left = (w, who) -> l.in(w, who) == 1 && r.in(w, who) == 1 ? 1 : 0;
            }
            return left;
        }

        Tree claim() {
            if (has("not", "(")) {
                if (open == 8) {
                    throw wrong(3);
                }
                open++;
                boolean not = take("not", "(").equals("not");
                Tree inner = not ? claim() : either();
                if (!not) {
                    take(")");
                }
                open--;
                return not ? (w, who) -> 1 - inner.in(w, who) : inner;
            }
            Tree l = sum();
            String sign = take("<", "=", ">");
            Tree r = sum();
            return (w, who) -> {
                int c = Integer.compare(l.in(w, who), r.in(w, who));
                return sign.equals("<") ? (c < 0 ? 1 : 0) : sign.equals("=") ? (c == 0 ? 1 : 0) : (c > 0 ? 1 : 0);
            };
        }

        Tree sum() {
            Tree left = product();
            while (has("+", "-")) {
                boolean less = take("+", "-").equals("-");
                Tree l = left;
                Tree r = product();
                left = (w, who) -> less ? l.in(w, who) - r.in(w, who) : l.in(w, who) + r.in(w, who);
            }
            return left;
        }

        Tree product() {
            Tree left = unit();
            while (has("*")) {
                at++;
                Tree l = left;
                Tree r = unit();
                left = (w, who) -> l.in(w, who) * r.in(w, who);
            }
            return left;
        }

        Tree unit() {
            if (see().matches("[0-9]{1,3}")) {
                int v = Integer.parseInt(take(see()));
                return (w, who) -> v;
            }
            String kind = take("coin", "debt", "wed", "child", "owns", "things", "day");
            if (kind.equals("day")) {
                return (w, who) -> w.day;
            }
            t |= kind.equals("owns");
            String p = person();
            if (kind.equals("coin") || kind.equals("owns") || kind.equals("things")) {
                return (w, who) -> ofOne(kind, w, who.of(p), who.t());
            }
            String q = unlike(p);
            return (w, who) -> ofTwo(kind, w, who.of(p), who.of(q));
        }

        static int ofOne(String kind, World w, int p, int t) {
            if (p == 3) {
                return 0;
            }
            if (kind.equals("coin")) {
                return w.coin[p];
            }
            if (kind.equals("owns")) {
                return t != 3 && w.owner[t] == p ? 1 : 0;
            }
            int many = 0;
            for (int o : w.owner) {
                many += o == p ? 1 : 0;
            }
            return many;
        }

        static int ofTwo(String kind, World w, int p, int q) {
            if (p == 3 || q == 3) {
                return 0;
            }
            if (kind.equals("debt")) {
                return w.debt[p][q];
            }
            return (kind.equals("wed") ? w.wed : w.child)[p][q] ? 1 : 0;
        }
    }

    /** What a SEARCH has MET, with THE ROW of each. */
    static final class Found {
        final List<World> worlds = new ArrayList<>();
        final List<List<Integer>> rows = new ArrayList<>();
        boolean spent;
    }

    final World beginning = new World();
    String tape = "";
    final List<List<Deed>> statutes = new ArrayList<>(Arrays.asList(new ArrayList<>(), new ArrayList<>()));
    final List<Tree> nevers = new ArrayList<>();
    final List<Remedy> cures = new ArrayList<>();
    final List<List<Integer>> rows = new ArrayList<>();
    final boolean[] honest = new boolean[6];
    final List<Integer> past = new ArrayList<>();
    int faultKind = 0;
    int faultPlace = NONE;

    PlainLaw() {
        for (int i = 0; i < 6; i++) {
            rows.add(new ArrayList<>());
        }
    }

    static boolean in(int v, int least, int most) {
        return v >= least && v <= most;
    }

    boolean coin(int p, int v) {
        if (!in(p, 0, 2) || !in(v, 0, 15)) {
            return false;
        }
        beginning.coin[p] = v;
        return true;
    }

    boolean debt(int p, int q, int v) {
        if (!in(p, 0, 2) || !in(q, 0, 2) || p == q || !in(v, 0, 7)) {
            return false;
        }
        beginning.debt[p][q] = v;
        return true;
    }

    boolean kin(int p, int q, int what, boolean is) {
        if (!in(p, 0, 2) || !in(q, 0, 2) || p == q || !in(what, 0, 1)) {
            return false;
        }
        if (what == 1) {
            beginning.child[p][q] = is;
        } else {
            beginning.wed[p][q] = is;
            beginning.wed[q][p] = is;
        }
        return true;
    }

    boolean owner(int t, int p) {
        if (!in(t, 0, 2) || !in(p, 0, 3)) {
            return false;
        }
        beginning.owner[t] = p;
        return true;
    }

    boolean day(int v) {
        if (!in(v, 0, 15)) {
            return false;
        }
        beginning.day = v;
        return true;
    }

    int feed(int... five) {
        if (tape.length() > 680) {
            return NONE;
        }
        for (int v : five) {
            for (int i = 3; i >= 0; i--) {
                tape += (char) (v >> 8 * i & 255);
            }
        }
        return tape.length();
    }

    boolean end(int n) {
        if (n < 0 || n > tape.length()) {
            return false;
        }
        tape = tape.substring(0, n);
        return true;
    }

    private String takeTape() {
        String text = tape;
        tape = "";
        faultKind = 0;
        faultPlace = NONE;
        return text;
    }

    private int fail(Fault f) {
        faultKind = f.kind;
        faultPlace = f.place;
        return NONE;
    }

    int statute(int l) {
        String text = takeTape();
        if (!in(l, 0, 1)) {
            return NONE;
        }
        try {
            statutes.set(l, new Parser(text).statute());
            return statutes.get(l).size();
        } catch (Fault f) {
            return fail(f);
        }
    }

    int never() {
        String text = takeTape();
        if (nevers.size() == 6) {
            return NONE;
        }
        try {
            nevers.add(new Parser(text).whole());
            return nevers.size() - 1;
        } catch (Fault f) {
            return fail(f);
        }
    }

    int cure(int act) {
        String text = takeTape();
        if (cures.size() == 5 || !in(act, 0, 11)) {
            return NONE;
        }
        try {
            cures.add(new Remedy(act, new Parser(text).whole()));
            return cures.size() - 1;
        } catch (Fault f) {
            return fail(f);
        }
    }

    int fault(int what) {
        return what == 0 ? faultKind : what == 1 ? faultPlace : NONE;
    }

    Deed deed(int x) {
        return in(x, 0, 11) && x % 6 < statutes.get(x / 6).size() ? statutes.get(x / 6).get(x % 6) : null;
    }

    int act(int x, int what) {
        Deed d = deed(x);
        if (d == null || !in(what, 0, 3)) {
            return NONE;
        }
        return new int[] {d.b ? 1 : 0, d.t ? 1 : 0, d.needs.size(), d.makes.size()}[what];
    }

    int put(int row, int code) {
        if (!in(row, 0, 5) || !in(code, 0, 767) || rows.get(row).size() == 12) {
            return NONE;
        }
        rows.get(row).add(code);
        return rows.get(row).size();
    }

    boolean clear(int row) {
        if (!in(row, 0, 5)) {
            return false;
        }
        rows.get(row).clear();
        honest[row] = false;
        return true;
    }

    boolean honest(int row, boolean is) {
        if (!in(row, 0, 5) || honest[row] == is) {
            return false;
        }
        honest[row] = is;
        return true;
    }

    /** Why not, or NONE; the STATE then is put into made[0]. */
    int why(World w, int code, int laws, int set, World[] made) {
        Deed d = deed(code / 64);
        Who who = new Who(code / 16 % 4, code / 4 % 4, code % 4);
        if (d == null || (laws & 1 << code / 64 / 6) == 0 || who.a() == 3 || d.b != (who.b() != 3)
            || who.a() == who.b() || d.t != (who.t() != 3)) {
            return 30;
        }
        for (int i = 0; i < d.needs.size(); i++) {
            if (d.needs.get(i).in(w, who) == 0) {
                return i;
            }
        }
        for (int i = 0; i < cures.size(); i++) {
            if ((set >> i) % 2 == 1 && cures.get(i).act() == code / 64 && cures.get(i).need().in(w, who) == 0) {
                return 10 + i;
            }
        }
        World x = w.copy();
        for (Change c : d.makes) {
            int p = c.p().isEmpty() ? 3 : who.of(c.p());
            int q = c.q().isEmpty() ? 3 : who.of(c.q());
            int e = c.amount() == null ? 0 : c.amount().in(w, who) * (c.less() ? -1 : 1);
            switch (c.kind()) {
                case "coin" -> x.coin[p] += e;
                case "debt" -> x.debt[p][q] += e;
                case "own" -> x.owner[who.t()] = p;
                case "adopt" -> x.child[p][q] = true;
                case "day" -> x.day += e;
                default -> {
                    x.wed[p][q] = c.kind().equals("wed");
                    x.wed[q][p] = c.kind().equals("wed");
                }
            }
        }
        if (!x.bounded()) {
            return 20;
        }
        made[0] = x;
        return NONE;
    }

    /** How far a ROW is LAWFUL, why not farther, and the STATE there. */
    int[] walk(int row, int laws, int set, World[] there) {
        there[0] = beginning;
        int n = 0;
        for (int code : rows.get(row)) {
            int why = why(there[0], code, laws, set, there);
            if (why != NONE) {
                return new int[] {n, why};
            }
            n++;
        }
        return new int[] {n, NONE};
    }

    int lawful(int row, int laws, int set, int what) {
        if (!in(row, 0, 5) || !in(laws, 1, 3) || !in(set, 0, 31) || !in(what, 0, 1)) {
            return NONE;
        }
        return walk(row, laws, set, new World[1])[what];
    }

    int after(int row, int what) {
        if (!in(row, 0, 5)) {
            return NONE;
        }
        World[] there = new World[1];
        walk(row, 3, 0, there);
        World w = there[0];
        Map<Integer, Integer> all = new LinkedHashMap<>();
        all.put(50, w.day);
        for (int p = 0; p < 3; p++) {
            all.put(p, w.coin[p]);
            all.put(40 + p, w.owner[p]);
            for (int q = 0; q < 3; q++) {
                if (p != q) {
                    all.put(10 + 3 * p + q, w.debt[p][q]);
                    all.put(20 + 3 * p + q, w.wed[p][q] ? 1 : 0);
                    all.put(30 + 3 * p + q, w.child[p][q] ? 1 : 0);
                }
            }
        }
        return all.getOrDefault(what, NONE);
    }

    Found search(int laws, int n, int persons, int set) {
        Found f = new Found();
        Set<String> met = new HashSet<>();
        f.worlds.add(beginning);
        f.rows.add(new ArrayList<>());
        met.add(beginning.name());
        for (int i = 0; i < f.worlds.size() && f.rows.get(i).size() < n; i++) {
            for (int code = 0; code < 768; code++) {
                int a = code / 16 % 4;
                int b = code / 4 % 4;
                if ((persons >> a) % 2 == 0 || b != 3 && (persons >> b) % 2 == 0) {
                    continue;
                }
                World[] made = new World[1];
                if (why(f.worlds.get(i), code, laws, set, made) != NONE || met.contains(made[0].name())) {
                    continue;
                }
                if (f.worlds.size() == 400) {
                    f.spent = true;
                    return f;
                }
                met.add(made[0].name());
                f.worlds.add(made[0]);
                List<Integer> row = new ArrayList<>(f.rows.get(i));
                row.add(code);
                f.rows.add(row);
            }
        }
        return f;
    }

    boolean isNever(World w, int k) {
        for (int a = 0; a < 3; a++) {
            for (int b = 0; b < 3; b++) {
                for (int t = 0; t < 3; t++) {
                    if (a != b && nevers.get(k).in(w, new Who(a, b, t)) == 1) {
                        return true;
                    }
                }
            }
        }
        return false;
    }

    int firstNever(Found f, int k) {
        for (int i = 0; i < f.worlds.size(); i++) {
            if (isNever(f.worlds.get(i), k)) {
                return i;
            }
        }
        return NONE;
    }

    int hole(int k, int laws, int n, int persons, int what) {
        if (!in(k, 0, nevers.size() - 1) || !in(laws, 1, 3) || !in(n, 0, 6) || !in(persons, 1, 7)
            || !in(what, 0, 20)) {
            return NONE;
        }
        Found f = search(laws, n, persons, 0);
        int i = firstNever(f, k);
        if (what == 20) {
            return i == NONE ? f.worlds.size() : i + 1;
        }
        if (i == NONE) {
            return f.spent ? SPENT : NONE;
        }
        List<Integer> row = f.rows.get(i);
        return what == 0 ? row.size() : what <= row.size() ? row.get(what - 1) : NONE;
    }

    int friends(int k, int laws, int n) {
        if (!in(k, 0, nevers.size() - 1) || !in(laws, 1, 3) || !in(n, 0, 6)) {
            return NONE;
        }
        for (int persons : new int[] {1, 2, 4, 3, 5, 6, 7}) {
            if (hole(k, laws, n, persons, 0) >= 0) {
                return persons;
            }
        }
        return NONE;
    }

    int only(int k, int n) {
        if (!in(k, 0, nevers.size() - 1) || !in(n, 0, 6)) {
            return NONE;
        }
        int both = hole(k, 3, n, 7, 0);
        int zero = hole(k, 1, n, 7, 0);
        int one = hole(k, 2, n, 7, 0);
        if (both == SPENT || zero == SPENT || one == SPENT) {
            return SPENT;
        }
        return both >= 0 && zero < 0 && one < 0 ? 1 : 0;
    }

    int met(int laws, int n, boolean alike) {
        if (!in(laws, 1, 3) || !in(n, 0, 6)) {
            return NONE;
        }
        Found f = search(laws, n, 7, 0);
        if (f.spent) {
            return SPENT;
        }
        if (!alike) {
            return f.worlds.size();
        }
        Set<String> seen = new HashSet<>();
        int many = 0;
        for (World w : f.worlds) {
            if (!seen.contains(w.name())) {
                many++;
            }
            for (int[] persons : ORDERS) {
                for (int[] things : ORDERS) {
                    seen.add(w.renamed(persons, things).name());
                }
            }
        }
        return many;
    }

    int gain(int p, int laws, int n, int what) {
        if (!in(p, 0, 2) || !in(laws, 1, 3) || !in(n, 0, 6) || what < 0) {
            return NONE - 99;
        }
        Found f = search(laws, n, 7, 0);
        if (f.spent) {
            return SPENT - 99;
        }
        int best = Integer.MIN_VALUE;
        List<Integer> row = null;
        for (int i = 0; i < f.worlds.size(); i++) {
            World w = f.worlds.get(i);
            int v = w.coin[p] - w.debt[p][0] - w.debt[p][1] - w.debt[p][2];
            if (v > best) {
                best = v;
                row = f.rows.get(i);
            }
        }
        return what == 0 ? best : what == 1 ? row.size() : what - 2 < row.size() ? row.get(what - 2) : NONE - 99;
    }

    int stop(int k, int n, int what) {
        if (!in(k, 0, nevers.size() - 1) || !in(n, 0, 6) || !in(what, 0, 1)) {
            return NONE;
        }
        // by count, then by number
        TreeSet<Integer> good = new TreeSet<>();
        for (int set = 0; set < 1 << cures.size(); set++) {
            boolean kept = true;
            for (int r = 0; r < 6; r++) {
                kept &= !honest[r] || lawful(r, 3, set, 0) == rows.get(r).size();
            }
            if (!kept) {
                continue;
            }
            Found f = search(3, n, 7, set);
            if (!f.spent && firstNever(f, k) == NONE) {
                good.add(100 * Integer.bitCount(set) + set);
            }
        }
        if (good.isEmpty()) {
            return NONE;
        }
        return what == 0 ? good.first() % 100 : good.first() / 100;
    }

    int past(int code) {
        if (!in(code, 0, 767) || past.size() == 200) {
            return NONE;
        }
        past.add(code);
        return past.size();
    }

    int through(int row, int what) {
        if (!in(row, 0, 5) || rows.get(row).isEmpty() || !in(what, 0, 1)) {
            return NONE;
        }
        TreeSet<Integer> all = new TreeSet<>();
        for (int[] p : ORDERS) {
            for (int[] t : ORDERS) {
                int end = NONE;
                boolean stands = true;
                for (int code : rows.get(row)) {
                    int a = code / 16 % 4;
                    int b = code / 4 % 4;
                    int c = code % 4;
                    int so = code / 64 * 64 + 16 * (a == 3 ? 3 : p[a]) + 4 * (b == 3 ? 3 : p[b]) + (c == 3 ? 3 : t[c]);
                    int more = past.subList(end + 1, past.size()).indexOf(so);
                    if (more < 0) {
                        stands = false;
                        break;
                    }
                    end += 1 + more;
                }
                if (stands) {
                    all.add(end * 1000000 + p[0] * 100000 + p[1] * 10000 + p[2] * 1000 + t[0] * 100 + t[1] * 10 + t[2]);
                }
            }
        }
        if (all.isEmpty()) {
            return NONE;
        }
        return what == 0 ? all.first() / 1000000 : all.first() % 1000000;
    }
}
