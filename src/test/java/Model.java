import java.math.BigInteger;
import java.util.ArrayList;
import java.util.Arrays;
import java.util.List;

/**
 * The document once more, by other means (trees, lists, big numbers, all ways one by one), for RandomTest.
 * Whoever changes the class by the document changes this by the document, too, not by the class.
 */
public final class Model {
    static final long NO = -4611686018427387904L;

    // ---- texts

    /** A token that can't stand where it does. */
    static final class Fault extends RuntimeException {
        private static final long serialVersionUID = 1L;
        final int place;

        Fault(int place) {
            super(null, null, false, false);
            this.place = place;
        }
    }

    static final class Node {
        final String what;
        final Node a, b;
        final int value;

        Node(String what, Node a, Node b, int value) {
            this.what = what;
            this.a = a;
            this.b = b;
            this.value = value;
        }

        int of(int[] names) {
            switch (what) {
                case "number": return value;
                case "name": return names[value];
                case "not": return a.of(names) == 0 ? 1 : 0;
                case "negate": return 0 - a.of(names);
                case "or": return (a.of(names) != 0) | (b.of(names) != 0) ? 1 : 0;
                case "and": return (a.of(names) != 0) & (b.of(names) != 0) ? 1 : 0;
                case "<": return a.of(names) < b.of(names) ? 1 : 0;
                case "=": return a.of(names) == b.of(names) ? 1 : 0;
                case "+": return a.of(names) + b.of(names);
                case "-": return a.of(names) - b.of(names);
                case "*": return a.of(names) * b.of(names);
                default: throw new IllegalStateException(what);
            }
        }
    }

    static final class Parser {
        private final List<String> tokens = new ArrayList<>();
        private final List<Integer> places = new ArrayList<>();
        private int next = 0, open = 0;

        Parser(String s) {
            int i = 0;
            while (i < s.length()) {
                int from = i;
                char c = s.charAt(i);
                if (c == 32 || c == 10) {
                    i++;
                    continue;
                }
                if (c >= 'a' && c <= 'z') {
                    while (i < s.length() && s.charAt(i) >= 'a' && s.charAt(i) <= 'z') {
                        i++;
                    }
                } else if (c >= '0' && c <= '9') {
                    while (i < s.length() && s.charAt(i) >= '0' && s.charAt(i) <= '9') {
                        i++;
                    }
                } else {
                    i++;
                }
                tokens.add(s.substring(from, i));
                places.add(from);
            }
            tokens.add("");
            places.add(s.length());
        }

        private boolean stands(String token) {
            return tokens.get(next).equals(token);
        }

        private Fault fault() {
            return new Fault(places.get(next));
        }

        private void expect(String token) {
            if (!stands(token)) {
                throw fault();
            }
            next++;
        }

        private void deeper() {
            if (open == 5) {
                throw fault();
            }
            open++;
            next++;
        }

        Node[] text() {
            Node[] parts = new Node[3];
            String[] keys = {"odds", "sizes", "seen"};
            for (int i = 0; i < 3; i++) {
                expect(keys[i]);
                parts[i] = either("or");
                expect(";");
            }
            expect("");
            return parts;
        }

        private Node either(String word) {
            Node a = word.equals("or") ? either("and") : not();
            while (stands(word)) {
                next++;
                a = new Node(word, a, word.equals("or") ? either("and") : not(), 0);
            }
            return a;
        }

        private Node not() {
            if (stands("not")) {
                deeper();
                Node a = not();
                open--;
                return new Node("not", a, null, 0);
            }
            Node a = sum();
            if (stands("<") || stands("=")) {
                String what = tokens.get(next++);
                a = new Node(what, a, sum(), 0);
            }
            return a;
        }

        private Node sum() {
            Node a = term();
            while (stands("+") || stands("-")) {
                String what = tokens.get(next++);
                a = new Node(what, a, term(), 0);
            }
            return a;
        }

        private Node term() {
            Node a = one();
            while (stands("*")) {
                next++;
                a = new Node("*", a, one(), 0);
            }
            return a;
        }

        private Node one() {
            String token = tokens.get(next);
            int name = Arrays.asList("year", "luck", "more", "excess", "share", "much").indexOf(token);
            if (name >= 0) {
                next++;
                return new Node("name", null, null, name);
            }
            if (token.matches("[0-9]{1,4}")) {
                next++;
                return new Node("number", null, null, Integer.parseInt(token));
            }
            if (token.equals("-")) {
                deeper();
                Node a = one();
                open--;
                return new Node("negate", a, null, 0);
            }
            if (token.equals("(")) {
                deeper();
                Node a = either("or");
                expect(")");
                open--;
                return a;
            }
            throw fault();
        }
    }

    // ---- state

    static final class L {
        int kind, more, wealth, excess = 10, share = 50, house, insures = -1, luck = 0;

        L copy() {
            L l = new L();
            l.kind = kind;
            l.more = more;
            l.wealth = wealth;
            l.excess = excess;
            l.share = share;
            l.house = house;
            l.insures = insures;
            l.luck = luck;
            return l;
        }
    }

    static final class State {
        List<L> lives = new ArrayList<>();
        int year = 0, fund = 0, goal = 1000, poor = 50, law = 0;

        State copy() {
            State s = new State();
            for (L l : lives) {
                s.lives.add(l.copy());
            }
            s.year = year;
            s.fund = fund;
            s.goal = goal;
            s.poor = poor;
            s.law = law;
            return s;
        }
    }

    State state = new State();
    State image = null;
    final List<Node[]> texts = new ArrayList<>();
    String tape = "";
    /** byte[], short[], int[] or null. */
    final Object[] sheets = new Object[4];

    public Model() {
        texts.add(new Parser("odds 20 + more ; sizes 100 + luck * 10 ; seen 30 ;").text());
    }

    // ---- by the terms

    static int clamp(int v, int most) {
        return v < 0 ? 0 : v > most ? most : v;
    }

    int says(int text, int part, L l, int year, int times, int much) {
        int[] names = {year, Math.min(99, times), l.more, l.excess, l.share, Math.min(999, much)};
        return clamp(texts.get(text)[part].of(names), part == 1 ? 999 : 100);
    }

    int rawOdds(int text, L l, int kind, int year, int times) {
        switch (kind) {
            case 0: return says(text, 0, l, year, times, 0);
            case 1: return rawOdds(text, l, 0, year, times) + 2 * l.more;
            case 2: return rawOdds(text, l, 0, year, times) / 2;
            case 3: return rawOdds(text, l, 1, year, times);
            case 4: return rawOdds(text, l, 2, year, times);
            default:
                boolean so = year % (l.more + 2) == l.more + 1;
                return so ? rawOdds(text, l, 0, year, times) * 2 + 20 : rawOdds(text, l, 0, year, times) / 4;
        }
    }

    int rawSize(int text, L l, int kind, int year, int times) {
        switch (kind) {
            case 0: return says(text, 1, l, year, times, 0);
            case 1: return rawSize(text, l, 0, year, times) / 2;
            case 2: return rawSize(text, l, 0, year, times);
            case 3: return times > 2 ? rawSize(text, l, 1, year, times) / 2 : rawSize(text, l, 1, year, times);
            case 4: return rawSize(text, l, 2, year, times) - 10 * l.more;
            default: return rawSize(text, l, 0, year, times) * (times == 0 ? 3 : 1);
        }
    }

    int rawSeen(int text, L l, int kind, int year, int times, int much) {
        switch (kind) {
            case 2: return rawSeen(text, l, 0, year, times, much) - 3 * l.more;
            case 3: return 100 - l.more;
            case 4: return rawSeen(text, l, 2, year, times, much) + 20;
            default: return says(text, 2, l, year, times, much);
        }
    }

    int oddsOf(int text, L l, int year, int times) {
        return clamp(rawOdds(text, l, l.kind, year, times), 100);
    }

    int sizeOf(int text, L l, int year, int times) {
        return clamp(rawSize(text, l, l.kind, year, times), 8991);
    }

    int seenOf(L l, int much) {
        return clamp(rawSeen(state.law, l, l.kind, state.year, l.luck, much), 100);
    }

    static int takenOf(L l, int much) {
        return much > l.excess ? (int) ((long) (much - l.excess) * l.share / 100) : 0;
    }

    /** taken, kept, windfalls, and how likely 0, 1, .. windfalls are, above 100 to the n-th. */
    BigInteger[] years(int text, L l, int n) {
        BigInteger[] sums = new BigInteger[10];
        Arrays.fill(sums, BigInteger.ZERO);
        for (int way = 0; way < 1 << n; way++) {
            BigInteger likely = BigInteger.ONE;
            long taken = 0, kept = 0;
            int times = l.luck;
            for (int y = 0; y < n; y++) {
                int odds = oddsOf(text, l, state.year + y, times);
                if ((way >> y & 1) == 1) {
                    int size = sizeOf(text, l, state.year + y, times);
                    likely = likely.multiply(BigInteger.valueOf(odds));
                    taken += takenOf(l, size);
                    kept += size - takenOf(l, size);
                    times++;
                } else {
                    likely = likely.multiply(BigInteger.valueOf(100 - odds));
                }
            }
            int had = Integer.bitCount(way);
            sums[0] = sums[0].add(likely.multiply(BigInteger.valueOf(taken)));
            sums[1] = sums[1].add(likely.multiply(BigInteger.valueOf(kept)));
            sums[2] = sums[2].add(likely.multiply(BigInteger.valueOf(had)));
            sums[3 + had] = sums[3 + had].add(likely);
        }
        return sums;
    }

    static long lowest(BigInteger above, BigInteger below, int part) {
        BigInteger by = above.gcd(below);
        return (part == 0 ? above : below).divide(by).longValueExact();
    }

    static BigInteger hundreds(int n) {
        return BigInteger.valueOf(100).pow(n);
    }

    boolean no(int l) {
        return l < 0 || l >= state.lives.size();
    }

    static boolean out(int v, int least, int most) {
        return v < least || v > most;
    }

    L at(int l) {
        return state.lives.get(l);
    }

    // ---- the law

    public int count(int what) {
        switch (what) {
            case 0: return state.lives.size();
            case 1: return state.year;
            case 2: return state.fund;
            case 3: return state.goal;
            case 4: return state.poor;
            case 5: return texts.size();
            case 6: return state.law;
            case 7: return tape.length();
            default: return -2;
        }
    }

    public int set(int what, int v) {
        if (what != 0 && what != 1) {
            return -5;
        }
        if (out(v, 0, 99999)) {
            return -7;
        }
        int was = what == 0 ? state.goal : state.poor;
        if (what == 0) {
            state.goal = v;
        } else {
            state.poor = v;
        }
        return was;
    }

    public int feed(int n, int a, int b, int c, int d, int e) {
        int[] bytes = {a, b, c, d, e};
        if (out(n, 1, 5)) {
            return -2;
        }
        for (int x : bytes) {
            if (out(x, 0, 255)) {
                return -2;
            }
        }
        if (tape.length() + n > 160) {
            return -4;
        }
        for (int i = 0; i < n; i++) {
            tape += (char) bytes[i];
        }
        return tape.length();
    }

    public int text() {
        if (texts.size() == 6) {
            return -4;
        }
        String read = tape;
        tape = "";
        try {
            texts.add(new Parser(read).text());
        } catch (Fault f) {
            return -100 - f.place;
        }
        return texts.size() - 1;
    }

    public int force(int t) {
        if (out(t, 0, texts.size() - 1)) {
            return -2;
        }
        int was = state.law;
        state.law = t;
        return was;
    }

    public int asks(int part, int l, int atTimes, int much) {
        if (out(part, 0, 2) || no(l) || out(atTimes, 0, 9999) || out(much, 0, 999)) {
            return -2;
        }
        return says(state.law, part, at(l), atTimes / 100, atTimes % 100, much);
    }

    // ---- lives

    public int life(int kindMore, int rich, int home) {
        if (out(kindMore, 0, 59) || out(rich, 0, 99999) || out(home, 0, 11)) {
            return -2;
        }
        if (state.lives.size() == 5) {
            return -4;
        }
        L l = new L();
        l.kind = kindMore / 10;
        l.more = kindMore % 10;
        l.wealth = rich;
        l.house = home;
        state.lives.add(l);
        return state.lives.size() - 1;
    }

    public int put(int l, int what, int v) {
        if (no(l)) {
            return -5;
        }
        int was = told(l, what);
        L one = at(l);
        int[] most = {99999, 999, 100, 11, state.lives.size() - 1, 99};
        if (out(what, 0, 5) || out(v, what == 4 ? -1 : 0, most[what]) || what == 4 && v == l) {
            return -7;
        }
        switch (what) {
            case 0: one.wealth = v; break;
            case 1: one.excess = v; break;
            case 2: one.share = v; break;
            case 3: one.house = v; break;
            case 4: one.insures = v; break;
            default: one.luck = v; break;
        }
        return was;
    }

    public int told(int l, int what) {
        if (no(l)) {
            return -5;
        }
        if (out(what, 0, 7)) {
            return -7;
        }
        L one = at(l);
        return new int[] {one.wealth, one.excess, one.share, one.house, one.insures, one.luck, one.kind, one.more}[what];
    }

    // ---- a windfall

    public int windfall(int l, int what) {
        if (no(l)) {
            return -5;
        }
        L one = at(l);
        int size = sizeOf(state.law, one, state.year, one.luck);
        switch (what) {
            case 0: return oddsOf(state.law, one, state.year, one.luck);
            case 1: return size;
            case 2: return takenOf(one, size);
            case 3: return seenOf(one, size);
            default: return -7;
        }
    }

    public int claim(int l, int much) {
        return no(l) ? -5 : out(much, 0, 99999) ? -7 : takenOf(at(l), much);
    }

    // ---- so many years

    public long mean(int l, int n, int part) {
        if (no(l) || out(n, 0, 6) || out(part, 0, 1)) {
            return NO;
        }
        return lowest(years(state.law, at(l), n)[0], hundreds(n), part);
    }

    public long keeps(int l, int n, int part) {
        if (no(l) || out(n, 0, 6) || out(part, 0, 1)) {
            return NO;
        }
        return lowest(years(state.law, at(l), n)[1], hundreds(n), part);
    }

    public long likely(int l, int n, int times, int part) {
        if (no(l) || out(n, 0, 6) || out(times, 0, 6) || out(part, 0, 1)) {
            return NO;
        }
        return lowest(years(state.law, at(l), n)[3 + times], hundreds(n), part);
    }

    public long fair(int l, int n) {
        if (no(l) || out(n, 1, 6)) {
            return NO;
        }
        BigInteger[] parts = years(state.law, at(l), n)[0].divideAndRemainder(hundreds(n).multiply(BigInteger.valueOf(n)));
        return parts[0].longValueExact() + (parts[1].signum() > 0 ? 1 : 0);
    }

    public int excess(int l, int n, int goalOf) {
        if (no(l)) {
            return -5;
        }
        if (out(n, 1, 6) || out(goalOf, 0, 1)) {
            return -7;
        }
        BigInteger most = null;
        int best = -1;
        for (int i = 0; i < 100; i++) {
            L one = at(l).copy();
            one.excess = i * 10;
            BigInteger so = years(state.law, one, n)[goalOf];
            if (most == null || so.compareTo(most) > 0) {
                most = so;
                best = i * 10;
            }
        }
        return best;
    }

    public int who(int n, int goalOf) {
        if (out(n, 1, 6) || out(goalOf, 0, 1)) {
            return -2;
        }
        BigInteger most = null;
        int best = -1;
        for (int l = 0; l < state.lives.size(); l++) {
            BigInteger so = years(state.law, at(l), n)[goalOf * 2];
            if (most == null || so.compareTo(most) > 0) {
                most = so;
                best = l;
            }
        }
        return best;
    }

    // ---- hidden in parts

    static List<Integer> cut(int much, int parts) {
        List<Integer> list = new ArrayList<>();
        int left = much;
        for (int i = parts; i > 0; i--) {
            int part = (left + i - 1) / i;
            list.add(part);
            left -= part;
        }
        return list;
    }

    public long hide(int l, int much, int what) {
        if (no(l)) {
            return -5;
        }
        if (out(much, 0, 99999) || out(what, 0, 1)) {
            return -7;
        }
        long least = Long.MAX_VALUE;
        int best = 0;
        for (int parts = 1; parts <= 9; parts++) {
            long means = 0;
            for (int part : cut(much, parts)) {
                means += (long) seenOf(at(l), part) * takenOf(at(l), part);
            }
            if (means < least) {
                least = means;
                best = parts;
            }
        }
        return what == 0 ? best : least;
    }

    public int none(int l, int much) {
        if (no(l)) {
            return -5;
        }
        if (out(much, 0, 99999)) {
            return -7;
        }
        for (int parts = 1; parts <= 9; parts++) {
            boolean above = false;
            for (int part : cut(much, parts)) {
                above |= part > at(l).excess;
            }
            if (!above) {
                return parts;
            }
        }
        return -1;
    }

    public long unseen(int l, int much, int parts, int part) {
        if (no(l) || out(much, 0, 99999) || out(parts, 1, 9) || out(part, 0, 1)) {
            return NO;
        }
        BigInteger likely = BigInteger.ONE;
        for (int p : cut(much, parts)) {
            likely = likely.multiply(BigInteger.valueOf(100 - seenOf(at(l), p)));
        }
        return lowest(likely, hundreds(parts), part);
    }

    // ---- an adjuster

    static int way(int a, int b) {
        int steps = 0;
        while ((a + steps) % 12 != b && (b + steps) % 12 != a) {
            steps++;
        }
        return steps;
    }

    /** All orders, the first ones first. */
    List<List<Integer>> orders(List<Integer> begun) {
        List<List<Integer>> all = new ArrayList<>();
        if (begun.size() == state.lives.size()) {
            all.add(begun);
        }
        for (int l = 0; l < state.lives.size(); l++) {
            if (!begun.contains(l)) {
                List<Integer> more = new ArrayList<>(begun);
                more.add(l);
                all.addAll(orders(more));
            }
        }
        return all;
    }

    public int round(int home, int goalOf, int what) {
        if (out(home, 0, 11) || out(goalOf, 0, 1) || out(what, 0, 1)) {
            return -2;
        }
        int least = Integer.MAX_VALUE;
        int digits = 0;
        for (List<Integer> order : orders(new ArrayList<>())) {
            int here = home, walked = 0, sum = 0, number = 0;
            for (int l : order) {
                walked += way(here, at(l).house);
                here = at(l).house;
                sum += windfall(l, 2) * walked;
                number = number * 10 + l + 1;
            }
            int cost = goalOf == 0 ? walked : sum;
            if (cost < least) {
                least = cost;
                digits = number;
            }
        }
        return what == 0 ? least : digits;
    }

    public int office(int what) {
        if (out(what, 0, 1)) {
            return -2;
        }
        int best = 0;
        for (int h = 1; h < 12; h++) {
            if (round(h, 0, 0) < round(best, 0, 0)) {
                best = h;
            }
        }
        return what == 0 ? best : round(best, 0, 0);
    }

    // ---- ruin

    public int ruin(int first, int what) {
        if (out(first, 0, (1 << state.lives.size()) - 1) || out(what, 0, 1)) {
            return -2;
        }
        boolean[] ruined = new boolean[5];
        for (int l = 0; l < 5; l++) {
            ruined[l] = (first >> l & 1) == 1;
        }
        int steps = 0;
        boolean came = true;
        while (came) {
            came = false;
            boolean[] ahead = ruined.clone();
            for (int l = 0; l < state.lives.size(); l++) {
                L one = at(l);
                int left = one.wealth;
                if (one.insures >= 0 && ahead[one.insures]) {
                    left -= at(one.insures).excess;
                }
                if (!ahead[l] && left < state.poor) {
                    ruined[l] = true;
                    came = true;
                }
            }
            steps += came ? 1 : 0;
        }
        int bits = 0;
        for (int l = 0; l < 5; l++) {
            bits += ruined[l] ? 1 << l : 0;
        }
        return what == 0 ? bits : steps;
    }

    public int worst(int what) {
        if (out(what, 0, 1)) {
            return -2;
        }
        int best = -1, most = -1;
        for (int l = 0; l < state.lives.size(); l++) {
            int many = Integer.bitCount(ruin(1 << l, 0));
            if (many > most) {
                most = many;
                best = l;
            }
        }
        return what == 0 ? best : most;
    }

    public int chain(int l) {
        if (no(l)) {
            return -5;
        }
        List<Integer> been = new ArrayList<>(List.of(l));
        int next = at(l).insures;
        while (next != -1 && !been.contains(next)) {
            been.add(next);
            next = at(next).insures;
        }
        return been.size() - 1;
    }

    public int rings() {
        int bits = 0;
        for (int l = 0; l < state.lives.size(); l++) {
            int next = at(l).insures;
            for (int i = 0; i < 10 && next != -1 && next != l; i++) {
                next = at(next).insures;
            }
            bits |= next == l ? 1 << l : 0;
        }
        return bits;
    }

    // ---- years by lots

    private long lot;

    /** Who had a windfall, and, behind that, what was taken. */
    private int[] pass(State s) {
        int had = 0, taken = 0;
        for (int l = 0; l < s.lives.size(); l++) {
            L one = s.lives.get(l);
            lot = lot * 48271 % 2147483647;
            if (lot % 100 < oddsOf(s.law, one, s.year, one.luck)) {
                int size = sizeOf(s.law, one, s.year, one.luck);
                had += 1 << l;
                taken += takenOf(one, size);
                one.wealth = Math.min(99999, one.wealth + size - takenOf(one, size));
                one.luck = Math.min(99, one.luck + 1);
            }
        }
        s.year++;
        return new int[] {had, taken};
    }

    public int live(int seed) {
        if (out(seed, 0, 99999)) {
            return -2;
        }
        if (state.year == 99) {
            return -4;
        }
        lot = seed + 1;
        int[] passed = pass(state);
        state.fund = Math.min(99999, state.fund + passed[1]);
        return passed[0];
    }

    private int runs(int seed, int n, int what) {
        State s = state.copy();
        lot = seed + 1;
        int taken = 0, happy = -1, ahead = -1;
        for (int y = 0; y < n; y++) {
            taken += pass(s)[1];
            for (int l = 0; l < s.lives.size(); l++) {
                if (happy < 0 && s.lives.get(l).wealth >= s.goal) {
                    happy = l;
                    ahead = y;
                }
            }
        }
        return what == 0 ? taken : what == 1 ? happy : what == 2 ? ahead : s.lives.get(what - 10).wealth;
    }

    public int run(int seed, int n, int what) {
        if (out(seed, 0, 99999) || out(n, 0, 40)) {
            return -2;
        }
        if (out(what, 0, 2) && out(what, 10, 9 + state.lives.size())) {
            return -7;
        }
        return runs(seed, n, what);
    }

    public long odds(int seed, int yearsSeeds, int part) {
        if (out(seed, 0, 99999) || yearsSeeds < 0 || out(part, 0, 1)) {
            return NO;
        }
        int n = yearsSeeds / 100, seeds = yearsSeeds % 100;
        if (out(n, 0, 40) || out(seeds, 1, 50)) {
            return NO;
        }
        int happy = 0;
        for (int i = 0; i < seeds; i++) {
            happy += runs(seed + i, n, 1) == -1 ? 0 : 1;
        }
        return lowest(BigInteger.valueOf(happy), BigInteger.valueOf(seeds), part);
    }

    // ---- told years

    static int length(Object sheet) {
        return java.lang.reflect.Array.getLength(sheet);
    }

    static int number(Object sheet, int i) {
        return java.lang.reflect.Array.getInt(sheet, i);
    }

    /** -2, -11, or 0: years are told. */
    int telling(int s) {
        if (out(s, 0, 3)) {
            return -2;
        }
        return sheets[s] == null ? -11 : length(sheets[s]) > 20 ? -2 : 0;
    }

    public int judge(int s, int l) {
        if (telling(s) != 0) {
            return telling(s);
        }
        if (no(l)) {
            return -5;
        }
        int times = at(l).luck;
        for (int y = 0; y < length(sheets[s]); y++) {
            int had = number(sheets[s], y);
            int odds = oddsOf(state.law, at(l), state.year + y, times);
            if (had == 0 ? odds == 100 : odds == 0 || had != sizeOf(state.law, at(l), state.year + y, times)) {
                return y;
            }
            if (had != 0) {
                times++;
            }
        }
        return -1;
    }

    private long fit(int s, L l, int text) {
        long so = 1000000000;
        int times = l.luck;
        for (int y = 0; y < length(sheets[s]); y++) {
            int had = number(sheets[s], y);
            int odds = oddsOf(text, l, state.year + y, times);
            int size = sizeOf(text, l, state.year + y, times);
            so = so * (had == 0 ? 100 - odds : had == size ? odds : 0) / 100;
            times += had == 0 ? 0 : 1;
        }
        return so;
    }

    public long parts(int s, int l) {
        return telling(s) != 0 || no(l) ? NO : fit(s, at(l), state.law);
    }

    public long fits(int s, int l, int sortWhat) {
        if (telling(s) != 0 || no(l) || !List.of(0, 1, 10, 11, 20, 21).contains(sortWhat)) {
            return NO;
        }
        int sort = sortWhat / 10;
        long most = -1;
        int best = -1;
        for (int v = 0; v < new int[] {6, 10, 21}[sort]; v++) {
            L one = at(l).copy();
            if (sort == 0) {
                one.kind = v;
            } else if (sort == 1) {
                one.more = v;
            } else {
                one.luck = v;
            }
            long so = fit(s, one, state.law);
            if (so > most) {
                most = so;
                best = v;
            }
        }
        return sortWhat % 10 == 0 ? best : most;
    }

    public long whose(int s, int what) {
        if (telling(s) != 0 || out(what, 0, 1)) {
            return NO;
        }
        long most = -1;
        int best = -1;
        for (int l = 0; l < state.lives.size(); l++) {
            if (parts(s, l) > most) {
                most = parts(s, l);
                best = l;
            }
        }
        return what == 0 ? best : most;
    }

    public long rule(int s, int l, int what) {
        if (telling(s) != 0 || no(l) || out(what, 0, 1)) {
            return NO;
        }
        long most = -1;
        int best = -1;
        for (int t = 0; t < texts.size(); t++) {
            if (fit(s, at(l), t) > most) {
                most = fit(s, at(l), t);
                best = t;
            }
        }
        return what == 0 ? best : most;
    }

    public int law(int l, int n) {
        if (no(l)) {
            return -5;
        }
        if (out(n, 1, 6)) {
            return -7;
        }
        int best = 0;
        for (int t = 1; t < texts.size(); t++) {
            if (years(t, at(l), n)[0].compareTo(years(best, at(l), n)[0]) > 0) {
                best = t;
            }
        }
        return best;
    }

    public int film(int s, int l, int set, int n) {
        if (out(s, 0, 3)) {
            return -2;
        }
        if (no(l)) {
            return -5;
        }
        if (out(n, 0, 20) || out(set, 0, (1 << n) - 1)) {
            return -7;
        }
        int[] row = new int[n];
        int times = at(l).luck;
        for (int y = 0; y < n; y++) {
            if ((set >> y & 1) == 1) {
                row[y] = sizeOf(state.law, at(l), state.year + y, times++);
            }
        }
        sheets[s] = row;
        return n;
    }

    public int image() {
        image = state.copy();
        return image.lives.size();
    }

    public int back() {
        if (image == null) {
            return -3;
        }
        state = image.copy();
        return state.lives.size();
    }

    // ---- the host

    public int sheet(int s, int sort, int n) {
        if (out(s, 0, 3) || out(sort, -1, 2) || sort != -1 && n > 40) {
            return -2;
        }
        if (sort != -1 && n < 0) {
            return -14;
        }
        sheets[s] = sort == -1 ? null : sort == 0 ? new byte[n] : sort == 1 ? new short[n] : new int[n];
        return 1;
    }

    public int cell(int s, int i, int v) {
        if (out(s, 0, 3)) {
            return -2;
        }
        if (sheets[s] == null) {
            return -11;
        }
        if (out(i, 0, length(sheets[s]) - 1)) {
            return -12;
        }
        if (sheets[s] instanceof byte[]) {
            ((byte[]) sheets[s])[i] = (byte) v;
        } else if (sheets[s] instanceof short[]) {
            ((short[]) sheets[s])[i] = (short) v;
        } else {
            ((int[]) sheets[s])[i] = v;
        }
        return 1;
    }

    public int copy(int s, int i, int other, int j, int n) {
        if (out(s, 0, 3) || out(other, 0, 3)) {
            return -2;
        }
        if (sheets[s] == null || sheets[other] == null) {
            return -11;
        }
        if (sheets[s].getClass() != sheets[other].getClass()) {
            return -13;
        }
        try {
            System.arraycopy(sheets[s], i, sheets[other], j, n);
        } catch (IndexOutOfBoundsException e) {
            return -12;
        }
        return n;
    }

    public int livesBy(int s, int sort, int at, int n) {
        if (out(s, 0, 3) || out(sort, 0, 2) || out(n, 0, 5)) {
            return -2;
        }
        if (sheets[s] == null) {
            return -11;
        }
        if (sheets[s].getClass() != List.of(byte[].class, short[].class, int[].class).get(sort)) {
            return -13;
        }
        int came = 0;
        for (long i = at; i < at + 3L * n; i += 3) {
            if (i < 0 || i + 2 >= length(sheets[s])) {
                return -12;
            }
            int place = (int) i;
            if (life(number(sheets[s], place), number(sheets[s], place + 1), number(sheets[s], place + 2)) >= 0) {
                came++;
            }
        }
        return came;
    }

    public int taken(int i, int kind) {
        if (out(kind, 0, 6)) {
            return -2;
        }
        if (out(i, 0, 16)) {
            return -12;
        }
        if (i < 5 && no(i)) {
            return -11;
        }
        if ((i >= 5) != (kind == 6)) {
            return -13;
        }
        if (i >= 5) {
            return state.lives.stream().anyMatch(l -> l.house == i - 5) ? 1 : 0;
        }
        // For each KIND, all that it is.
        String[] is = {"0", "10", "20", "310", "420", "50"};
        return is[at(i).kind].indexOf('0' + kind) >= 0 ? i : -13;
    }
}
