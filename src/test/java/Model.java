import java.util.ArrayList;
import java.util.List;
import java.util.TreeSet;

/**
 * The document once more, as plainly and as wastefully as can be: sets are sets,
 * and what is thought is done truly on a whole copy. Only tests use it.
 */
final class Model {
    static final int NONE = -1, BAD = -2, STATE = -3, FULL = -4;
    static final long NO = WellGivesOther.NO;

    static final class Someone {
        int kind, number, spent;
        TreeSet<Integer> shut = new TreeSet<>();
        TreeSet<Integer> had = new TreeSet<>();

        Someone copied() {
            Someone c = new Someone();
            c.kind = kind;
            c.number = number;
            c.spent = spent;
            c.shut.addAll(shut);
            c.had.addAll(had);
            return c;
        }
    }

    /** A fault on the tape. */
    private static final class Fault extends RuntimeException {
        private static final long serialVersionUID = 1;
        final int place;

        Fault(int place) {
            super(null, null, false, false);
            this.place = place;
        }
    }

    boolean[][] alike = new boolean[12][12];
    int day;
    List<Someone> all = new ArrayList<>();
    List<String> texts = new ArrayList<>();
    int rule;
    String tape = "";
    int[][] cells = new int[4][];
    int[] sorts = new int[4];
    Model kept;

    Model() {
        texts.add("gives day ; glads thing ; costs words ;");
    }

    Model copied() {
        Model m = new Model();
        for (int i = 0; i < 12; i++) m.alike[i] = alike[i].clone();
        m.day = day;
        for (Someone s : all) m.all.add(s.copied());
        m.texts = new ArrayList<>(texts);
        m.rule = rule;
        for (int i = 0; i < 4; i++) m.cells[i] = cells[i] == null ? null : cells[i].clone();
        m.sorts = sorts.clone();
        return m;
    }

    static TreeSet<Integer> unpack(int bits) {
        TreeSet<Integer> out = new TreeSet<>();
        for (int i = 0; i < 12; i++) if ((bits & (1 << i)) != 0) out.add(i);
        return out;
    }

    static int pack(Iterable<Integer> things) {
        int bits = 0;
        for (int i : things) bits += 1 << i;
        return bits;
    }

    boolean someone(int one) { return one >= 0 && one < all.size(); }
    static boolean thing(int t) { return 0 <= t && t < 12; }
    static boolean within(int v, int least, int most) { return least <= v && v <= most; }

    // ---- kinds

    int likenesses(int t, TreeSet<Integer> of) {
        int n = 0;
        for (int o : of) if (alike[t][o]) n++;
        return n;
    }

    boolean nextHad(int one, int t) {
        int next = one == all.size() - 1 ? 0 : one + 1;
        return next != one && all.get(next).had.contains(t);
    }

    boolean open(int one, TreeSet<Integer> asked, int t) {
        Someone s = all.get(one);
        if (asked.contains(t)) return false;
        boolean asAsker = likenesses(t, asked) == 0 && !s.shut.contains(t);
        switch (s.kind) {
            case 1: return likenesses(t, asked) <= 1 && !s.shut.contains(t);
            case 2: return asAsker && !nextHad(one, t);
            case 3: return likenesses(t, asked) <= 1;
            case 4:
                for (int between = 0; between < 12; between++)
                    if (alike[t][between] && likenesses(between, asked) > 0) return false;
                return asAsker && !nextHad(one, t);
            case 5: return asAsker && !s.had.contains(t);
            default: return asAsker;
        }
    }

    List<Integer> opens(int one, TreeSet<Integer> asked) {
        List<Integer> out = new ArrayList<>();
        for (int t = 0; t < 12; t++) if (open(one, asked, t)) out.add(t);
        return out;
    }

    int gives(int one, TreeSet<Integer> asked) {
        Someone s = all.get(one);
        List<Integer> open = opens(one, asked);
        int n = open.size();
        if (n == 0) return NONE;
        int v = clamp(eval(one, 0, 0, asked.size(), n), -99, 99);
        int asAsker = ((v % n) + n) % n;
        switch (s.kind) {
            case 1: return open.get(0);
            case 2: return open.get(n - 1);
            case 3: return open.get(s.number % n);
            case 4: return open.get(day % 2 == 0 ? asAsker : n - 1);
            default: return open.get(asAsker);
        }
    }

    TreeSet<Integer> shuts(int one, TreeSet<Integer> asked) {
        TreeSet<Integer> out = new TreeSet<>();
        int kind = all.get(one).kind;
        if (kind == 1 || kind == 3) out.add(asked.first());
        if (kind == 0 || kind == 2 || kind == 4) out.addAll(asked);
        if (kind == 2 || kind == 4) for (int t = 0; t < 12; t++) if (likenesses(t, asked) > 0) out.add(t);
        return out;
    }

    int costing(int one, TreeSet<Integer> asked) {
        return clamp(eval(one, 2, 0, asked.size(), 0), 0, 99);
    }

    int gladness(int one, int t) {
        Someone s = all.get(one);
        int v = clamp(eval(one, 1, t, 0, 0), -99, 99);
        int out = v;
        if (s.kind == 1) out = v / 2;
        if (s.kind == 2) out = nextHad(one, t) ? 0 : v;
        if (s.kind == 3) out = v / 2 + s.number;
        if (s.kind == 4) out = nextHad(one, t) ? 0 : v * 2;
        if (s.kind == 5) out = 9;
        return clamp(out, -99, 99);
    }

    static int clamp(int v, int least, int most) { return v < least ? least : v > most ? most : v; }

    int asked(int one, TreeSet<Integer> set) {
        Someone s = all.get(one);
        int given = gives(one, set);
        TreeSet<Integer> shuts = shuts(one, set);
        int cost = costing(one, set);
        if (given != NONE) s.had.add(given);
        s.shut.addAll(shuts);
        s.spent = Math.min(9999, s.spent + cost);
        return given;
    }

    // ---- texts: read and worked at once

    private static final List<String> NAMES = List.of("thing", "words", "ways", "number", "day", "had");
    private static final List<String> WORDS = List.of("thing", "words", "ways", "number", "day", "had",
        "gives", "glads", "costs", "or", "and", "not");
    private String src;
    private int pos, evalOne, evalPart, evalThing, evalWords, evalWays;
    private boolean working;

    int eval(int one, int part, int t, int words, int ways) {
        evalOne = one;
        evalPart = part;
        evalThing = t;
        evalWords = words;
        evalWays = ways;
        working = true;
        return whole(texts.get(rule))[part];
    }

    int faultOf(String text) {
        working = false;
        try {
            whole(text);
            return NONE;
        } catch (Fault f) {
            return f.place;
        }
    }

    private int[] whole(String text) {
        src = text;
        pos = 0;
        int[] out = new int[3];
        String[] keys = {"gives", "glads", "costs"};
        for (int i = 0; i < 3; i++) {
            take(keys[i]);
            out[i] = either(0);
            take(";");
        }
        if (!peek().isEmpty()) throw new Fault(pos);
        return out;
    }

    private String peek() {
        while (pos < src.length() && (src.charAt(pos) == ' ' || src.charAt(pos) == '\n')) pos++;
        if (pos == src.length()) return "";
        int end = pos + 1;
        char first = src.charAt(pos);
        if (Character.isLowerCase(first) && first < 128) {
            while (end < src.length() && "abcdefghijklmnopqrstuvwxyz".indexOf(src.charAt(end)) >= 0) end++;
        } else if ("0123456789".indexOf(first) >= 0) {
            while (end < src.length() && "0123456789".indexOf(src.charAt(end)) >= 0) end++;
            if (end - pos > 4) throw new Fault(pos);
        } else if ("();+-*<=".indexOf(first) < 0) {
            throw new Fault(pos);
        }
        String token = src.substring(pos, end);
        if (Character.isLowerCase(first) && !WORDS.contains(token)) throw new Fault(pos);
        return token;
    }

    private void take(String wanted) {
        if (!peek().equals(wanted)) throw new Fault(pos);
        pos += wanted.length();
    }

    private int either(int open) {
        int v = both(open);
        while (peek().equals("or")) {
            take("or");
            int w = both(open);
            v = v != 0 | w != 0 ? 1 : 0;
        }
        return v;
    }

    private int both(int open) {
        int v = negated(open);
        while (peek().equals("and")) {
            take("and");
            int w = negated(open);
            v = v != 0 & w != 0 ? 1 : 0;
        }
        return v;
    }

    private int negated(int open) {
        if (peek().equals("not")) {
            if (open == 5) throw new Fault(pos);
            take("not");
            return negated(open + 1) == 0 ? 1 : 0;
        }
        int v = sum(open);
        if (peek().equals("<")) {
            take("<");
            return v < sum(open) ? 1 : 0;
        }
        if (peek().equals("=")) {
            take("=");
            return v == sum(open) ? 1 : 0;
        }
        return v;
    }

    private int sum(int open) {
        int v = term(open);
        while (peek().equals("+") || peek().equals("-")) {
            boolean more = peek().equals("+");
            pos++;
            int w = term(open);
            v = more ? v + w : v - w;
        }
        return v;
    }

    private int term(int open) {
        int v = single(open);
        while (peek().equals("*")) {
            take("*");
            v = v * single(open);
        }
        return v;
    }

    private int single(int open) {
        String token = peek();
        if (token.equals("-") || token.equals("(")) {
            if (open == 5) throw new Fault(pos);
            pos++;
            if (token.equals("-")) return -single(open + 1);
            int v = either(open + 1);
            take(")");
            return v;
        }
        if (!token.isEmpty() && Character.isDigit(token.charAt(0))) {
            pos += token.length();
            return Integer.parseInt(token);
        }
        if (!NAMES.contains(token)) throw new Fault(pos);
        pos += token.length();
        return working ? named(token) : 0;
    }

    private int named(String name) {
        switch (name) {
            case "thing": return evalPart == 1 ? evalThing : 0;
            case "words": return evalPart == 1 ? 0 : evalWords;
            case "ways": return evalPart == 0 ? evalWays : 0;
            case "number": return all.get(evalOne).number;
            case "day": return day;
            default: return all.get(evalOne).had.size();
        }
    }

    // ---- the calls: things, askers

    int like(int one, int other, int on) {
        if (!thing(one) || !thing(other) || one == other || !within(on, 0, 1)) return BAD;
        int was = alike[one][other] ? 1 : 0;
        alike[one][other] = on == 1;
        alike[other][one] = on == 1;
        return was;
    }

    int set(int what, int of, int v) {
        int was;
        if (what == 0) {
            if (!within(v, 0, 999)) return BAD;
            was = day;
            day = v;
            return was;
        }
        if (!someone(of)) return BAD;
        Someone s = all.get(of);
        if (what == 1 && within(v, 0, 9)) {
            was = s.number;
            s.number = v;
        } else if (what == 2 && within(v, 0, 4095)) {
            was = pack(s.shut);
            s.shut = unpack(v);
        } else if (what == 3 && within(v, 0, 4095)) {
            was = pack(s.had);
            s.had = unpack(v);
        } else if (what == 4 && within(v, 0, 9999)) {
            was = s.spent;
            s.spent = v;
        } else {
            return BAD;
        }
        return was;
    }

    int asker(int kind, int number) {
        if (!within(kind, 0, 5) || !within(number, 0, 9)) return BAD;
        if (all.size() == 5) return FULL;
        Someone s = new Someone();
        s.kind = kind;
        s.number = number;
        all.add(s);
        return all.size() - 1;
    }

    int told(int of, int what) {
        if (what == 0) return day;
        if (what == 7 && thing(of)) {
            int bits = 0;
            for (int t = 0; t < 12; t++) if (alike[of][t]) bits |= 1 << t;
            return bits;
        }
        if (!someone(of)) return BAD;
        Someone s = all.get(of);
        switch (what) {
            case 1: return s.number;
            case 2: return pack(s.shut);
            case 3: return pack(s.had);
            case 4: return s.spent;
            case 5: return s.kind;
            case 6: return never(of);
            default: return BAD;
        }
    }

    /** The sets of 1 to 3 things: the ones of fewest things first, then the least as bits. */
    static List<TreeSet<Integer>> few() {
        List<TreeSet<Integer>> out = new ArrayList<>();
        for (int bits = 1; bits < 4096; bits++) if (unpack(bits).size() <= 3) out.add(unpack(bits));
        out.sort((a, b) -> a.size() != b.size() ? a.size() - b.size() : pack(a) - pack(b));
        return out;
    }

    private static final List<TreeSet<Integer>> FEW = few();

    int never(int one) {
        TreeSet<Integer> left = unpack(4095);
        for (TreeSet<Integer> set : FEW) left.remove(gives(one, set));
        return pack(left);
    }

    int asks(int one, int set, int what) {
        if (!someone(one) || !within(set, 1, 4095)) return BAD;
        switch (what) {
            case 0: return pack(opens(one, unpack(set)));
            case 1: return gives(one, unpack(set));
            case 2: return pack(shuts(one, unpack(set)));
            case 3: return costing(one, unpack(set));
            default: return BAD;
        }
    }

    int glad(int one, int t) { return someone(one) && thing(t) ? gladness(one, t) : -1000; }

    // ---- texts

    int feed(int letter) {
        if (!within(letter, 0, 255)) return BAD;
        if (tape.length() == 160) return FULL;
        tape += (char) letter;
        return tape.length();
    }

    int text() {
        if (texts.size() == 6) return FULL;
        String read = tape;
        tape = "";
        int fault = faultOf(read);
        if (fault != NONE) return -100 - fault;
        texts.add(read);
        return texts.size() - 1;
    }

    int force(int text) {
        if (!within(text, 0, texts.size() - 1)) return BAD;
        int was = rule;
        rule = text;
        return was;
    }

    // ---- askings

    int ask(int one, int set) { return someone(one) && within(set, 1, 4095) ? asked(one, unpack(set)) : BAD; }

    int day() { return day == 999 ? STATE : ++day; }

    int row(int sheet, int one, int what) {
        if (!within(sheet, 0, 3) || !someone(one) || !within(what, 0, 5)) return -1000;
        if (cells[sheet] == null) return -1011;
        for (int set : cells[sheet]) if (!within(set, 1, 4095)) return -1002;
        Model m = copied();
        int last = NONE, nothing = 0, joy = 0, cost = 0;
        for (int set : cells[sheet]) {
            last = m.gives(one, unpack(set));
            if (last == NONE) nothing++;
            else joy += m.gladness(one, last);
            cost += m.costing(one, unpack(set));
            m.asked(one, unpack(set));
        }
        int[] out = {last, nothing, joy, cost, pack(m.all.get(one).shut), pack(m.all.get(one).had)};
        return out[what];
    }

    int rows(int sheet, int one) {
        int refusal = row(sheet, one, 0);
        if (refusal <= -1000) return refusal;
        int some = 0;
        for (int set : cells[sheet]) if (asked(one, unpack(set)) != NONE) some++;
        return some;
    }

    // ---- what would be best

    int leave(int one, int t, int what) {
        if (!someone(one) || !thing(t) || !within(what, 0, 1)) return BAD;
        for (int size = 1; size <= 12; size++) {
            for (int bits = 1; bits < 4096; bits++) {
                TreeSet<Integer> set = unpack(bits);
                if (set.size() != size) continue;
                List<Integer> open = opens(one, set);
                if (open.size() == 1 && open.get(0) == t) return what == 0 ? bits : size;
            }
        }
        return NONE;
    }

    int gladdest(int one, int what) {
        if (!someone(one) || !within(what, 0, 1)) return -2000;
        int best = NONE, joy = -1000;
        for (TreeSet<Integer> set : FEW) {
            int given = gives(one, set);
            if (given == NONE || gladness(one, given) <= joy) continue;
            joy = gladness(one, given);
            best = pack(set);
        }
        return what == 0 ? best : joy;
    }

    int get(int one, int t, int what) {
        if (!someone(one) || !thing(t) || !within(what, 0, 1)) return BAD;
        int best = NONE, cost = 1000;
        for (TreeSet<Integer> set : FEW) {
            if (gives(one, set) != t || costing(one, set) >= cost) continue;
            cost = costing(one, set);
            best = pack(set);
        }
        return best == NONE ? NONE : what == 0 ? best : cost;
    }

    int map(int sheet) {
        if (!within(sheet, 0, 3)) return BAD;
        int[] c = cells[sheet];
        if (c == null) return -11;
        if (c.length % 2 == 1) return BAD;
        TreeSet<Integer> twos = new TreeSet<>();
        for (int i = 0; i < c.length; i += 2) {
            if (!within(c[i], 0, 4095) || !thing(c[i + 1])) return BAD;
            for (int t : unpack(c[i]))
                if (t != c[i + 1]) twos.add(100 * Math.min(t, c[i + 1]) + Math.max(t, c[i + 1]));
        }
        return twos.size();
    }

    int net(int what) {
        int cliques = 0, near = 0, most = -1, twos = 0;
        for (int a = 0; a < 12; a++) {
            int n = 0;
            for (int b = 0; b < 12; b++) {
                if (!alike[a][b]) continue;
                n++;
                if (a < b) twos++;
                for (int c = 0; c < 12; c++) if (a < b && b < c && alike[a][c] && alike[b][c]) cliques++;
            }
            if (n > most) {
                most = n;
                near = a;
            }
        }
        int[] out = {cliques, near, most, twos};
        return within(what, 0, 3) ? out[what] : BAD;
    }

    static long fraction(int above, int below, int part) {
        for (int d = below; d > 1; d--) {
            if (above % d == 0 && below % d == 0) {
                above /= d;
                below /= d;
            }
        }
        return part == 0 ? above : below;
    }

    long share(int one, int part) {
        return someone(one) && within(part, 0, 1) ? fraction(all.get(one).had.size(), 12, part) : NO;
    }

    // ---- askings that were told

    int other(int[] c, int one) {
        for (int i = 0; i < c.length; i++) if (gives(one, unpack(1 << i)) != c[i]) return i;
        return NONE;
    }

    int tells(int sheet, int one, int what) {
        if (!within(sheet, 0, 3) || !someone(one) || !within(what, 0, 7)) return BAD;
        int[] c = cells[sheet];
        if (c == null) return -11;
        if (c.length > 12) return BAD;
        if (what == 0) return other(c, one);
        int[] sizes = {0, 6, 10, 100, 100, 12, texts.size(), all.size()};
        List<Integer> fits = new ArrayList<>();
        for (int i = 0; i < sizes[what]; i++) {
            Model m = copied();
            Someone s = m.all.get(one);
            switch (what) {
                case 1: s.kind = i; break;
                case 2: s.number = i; break;
                case 3: case 4: m.day = i; break;
                case 5: if (!s.shut.remove(i)) s.shut.add(i); break;
                case 6: m.rule = i; break;
                default: break;
            }
            if (m.other(c, what == 7 ? i : one) == NONE) fits.add(i);
        }
        if (what == 3) return fits.size();
        if (what == 4) return fits.isEmpty() ? NONE : fits.get(0);
        return pack(fits);
    }

    int film(int sheet, int one) {
        if (!within(sheet, 0, 3) || !someone(one)) return BAD;
        int n = 0;
        cells[sheet] = new int[12];
        sorts[sheet] = 0;
        for (int t = 0; t < 12; t++) {
            cells[sheet][t] = gives(one, unpack(1 << t));
            if (cells[sheet][t] != NONE) n++;
        }
        return n;
    }

    int drawn(int seed, int one, int n) {
        if (!someone(one) || !within(n, 0, 40)) return BAD;
        Model m = copied();
        int z = seed;
        for (int i = 0; i < n; i++) {
            z = z * 1103515245 + 12345;
            m.asked(one, unpack(1 << ((z >>> 9) % 12)));
            m.day++;
        }
        return m.all.get(one).had.size();
    }

    long chance(int seed, int m, int one, int k, int part) {
        if (!within(m, 1, 20) || !someone(one) || !within(k, 0, 12) || !within(part, 0, 1)) return NO;
        int n = 0;
        for (int i = 0; i < m; i++) if (drawn(seed + i, one, 6) >= k) n++;
        return fraction(n, m, part);
    }

    int image() {
        kept = copied();
        return all.size();
    }

    int back() {
        if (kept == null) return STATE;
        Model k = kept.copied();
        alike = k.alike;
        day = k.day;
        all = k.all;
        rule = k.rule;
        return all.size();
    }

    int count(int what) {
        int[] out = {all.size(), net(3), day, texts.size(), tape.length(), rule};
        return within(what, 0, 5) ? out[what] : BAD;
    }

    // ---- the host

    int sheet(int sheet, int sort, int n) {
        if (!within(sheet, 0, 3) || !within(sort, -1, 2)) return BAD;
        if (sort >= 0 && n > 40) return BAD;
        if (sort >= 0 && n < 0) return -14;
        cells[sheet] = sort < 0 ? null : new int[n];
        sorts[sheet] = sort;
        return 1;
    }

    int cell(int sheet, int i, int v) {
        if (!within(sheet, 0, 3)) return BAD;
        if (cells[sheet] == null) return -11;
        if (!within(i, 0, cells[sheet].length - 1)) return -12;
        cells[sheet][i] = sorts[sheet] == 0 ? (byte) v : sorts[sheet] == 1 ? (short) v : v;
        return 1;
    }

    int copy(int sheet, int i, int other, int j, int n) {
        if (!within(sheet, 0, 3) || !within(other, 0, 3)) return BAD;
        if (cells[sheet] == null || cells[other] == null) return -11;
        if (sorts[sheet] != sorts[other]) return -13;
        if (i < 0 || j < 0 || n < 0 || (long) i + n > cells[sheet].length || (long) j + n > cells[other].length) return -12;
        int[] were = cells[sheet].clone();
        for (int k = 0; k < n; k++) cells[other][j + k] = were[i + k];
        return n;
    }

    int askers(int sheet, int sort, int from, int n) {
        if (!within(sheet, 0, 3) || !within(sort, 0, 2) || !within(n, 0, 5)) return BAD;
        if (cells[sheet] != null && sorts[sheet] != sort) return -13;
        if (cells[sheet] == null) return -11;
        int came = 0;
        for (int k = 0; k < n; k++) {
            long at = (long) from + 2 * k;
            if (at < 0 || at + 1 >= cells[sheet].length) return -12;
            if (asker(cells[sheet][(int) at], cells[sheet][(int) at + 1]) >= 0) came++;
        }
        return came;
    }

    int taken(int one, int k) {
        if (!within(k, 0, 5)) return BAD;
        if (!someone(one)) return -11;
        int kind = all.get(one).kind;
        boolean under = k == kind || k == 0 || k == 1 && kind == 3 || k == 2 && kind == 4;
        return under ? all.get(one).number : -13;
    }
}
