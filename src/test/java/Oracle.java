import java.math.BigInteger;
import java.util.ArrayDeque;
import java.util.ArrayList;
import java.util.Arrays;
import java.util.HashMap;
import java.util.HashSet;
import java.util.List;
import java.util.Map;
import java.util.NoSuchElementException;
import java.util.Set;
import java.util.TreeSet;

/**
 * The document over again, as plainly as can be and without a thought for speed or room, so that the class can be
 * held against it. It shares no code with the class and goes other ways where there are any: all rows of crossings
 * rather than a search, all orders rather than a placing, powers by BigInteger, whole copies for every ACT.
 */
final class Oracle {
    static final int NONE = -1;
    static final int HIDDEN = -1000000;
    static final BigInteger P = BigInteger.valueOf(1000003);

    /** What ACTS change. */
    static final class State {
        int[][] b;
        long[] w;
        int[] crossed;
        boolean[] kept;
        int coins;
        int crossings;
        List<int[]> log = new ArrayList<>();

        State copy() {
            State s = new State();
            s.b = new int[b.length][];
            for (int i = 0; i < b.length; i++) {
                s.b[i] = b[i].clone();
            }
            s.w = w.clone();
            s.crossed = crossed.clone();
            s.kept = kept.clone();
            s.coins = coins;
            s.crossings = crossings;
            s.log = new ArrayList<>(log);
            return s;
        }
    }

    String tape = "";
    int houses = 0;
    int many = 0;
    int[] temper = new int[0];
    State now = null;
    State told = null;
    State imaged = null;
    final List<State> acts = new ArrayList<>();
    final List<String> laws = new ArrayList<>();
    final List<int[]> songs = new ArrayList<>();
    final List<int[]> sights = new ArrayList<>();
    int holds = NONE;
    int grace = 2;
    final int[] status = new int[6];

    // ---- texts

    int feed(int a, int b, int c, int d, int e) {
        StringBuilder more = new StringBuilder();
        for (int word : new int[] {a, b, c, d, e}) {
            for (byte one : BigInteger.valueOf(word & 0xffffffffL | 1L << 32).toByteArray()) {
                more.append((char) (one & 255));
            }
            more.deleteCharAt(more.length() - 5);
        }
        String kept = more.toString().replace("\0", "");
        if (tape.length() + kept.length() > 240) {
            return NONE;
        }
        tape += kept;
        return tape.length();
    }

    boolean end(int n) {
        if (n < 0 || n > tape.length()) {
            return false;
        }
        tape = tape.substring(0, n);
        return true;
    }

    int fault(int sort) {
        if (sort == 0) {
            return new VillageText(tape).fault;
        }
        if (sort == 1) {
            return new LawText(tape, new int[6]).fault();
        }
        return sort == 2 ? songFault() : -2;
    }

    private int songFault() {
        int digits = 0;
        for (int i = 0; i < tape.length(); i++) {
            char c = tape.charAt(i);
            if (c == ' ') {
                continue;
            }
            if (!Character.isDigit(c) || digits == 16) {
                return i;
            }
            digits++;
        }
        return digits == 0 ? tape.length() : NONE;
    }

    int text(int sort) {
        if (sort < 0 || sort > 2 || fault(sort) != NONE) {
            return NONE;
        }
        int answer;
        if (sort == 0) {
            VillageText v = new VillageText(tape);
            houses = v.p.size();
            many = v.many;
            temper = new int[houses];
            now = new State();
            now.b = new int[houses][houses];
            now.w = new long[houses];
            now.crossed = new int[houses];
            now.kept = new boolean[houses];
            now.coins = v.coins;
            for (int i = 0; i < houses; i++) {
                now.w[i] = v.p.get(i)[0];
                temper[i] = v.p.get(i)[1];
                now.kept[i] = v.p.get(i)[2] == 1;
            }
            for (int[] f : v.f) {
                now.b[f[0]][f[1]] += f[2];
                now.b[f[1]][f[0]] -= f[2];
            }
            told = now.copy();
            imaged = null;
            acts.clear();
            sights.clear();
            answer = houses;
        } else if (sort == 1) {
            if (laws.size() == 4) {
                return NONE;
            }
            laws.add(tape);
            answer = laws.size() - 1;
        } else {
            if (songs.size() == 4) {
                return NONE;
            }
            songs.add(tape.replace(" ", "").chars().map(c -> c - '0').toArray());
            answer = songs.size() - 1;
        }
        tape = "";
        return answer;
    }

    /** Reads a VILLAGE by cutting it into clauses first. */
    static final class VillageText {
        final List<int[]> p = new ArrayList<>();
        final List<int[]> f = new ArrayList<>();
        int coins = 20;
        int many = 20;
        int rules = 0;
        int fault = NONE;

        VillageText(String text) {
            int from = 0;
            for (String clause : text.split(";", -1)) {
                int wrong = clause(clause);
                if (wrong >= 0) {
                    fault = from + wrong;
                    return;
                }
                from += clause.length() + 1;
            }
            int[][] sum = new int[6][6];
            boolean bad = p.size() < 2;
            for (int[] one : f) {
                bad |= one[0] >= p.size() || one[1] >= p.size() || one[0] == one[1];
                sum[one[0]][one[1]] += one[2];
                sum[one[1]][one[0]] -= one[2];
            }
            for (int i = 0; i < 6; i++) {
                for (int j = 0; j < 6; j++) {
                    bad |= i != j && sum[i][j] > many;
                }
            }
            if (bad) {
                fault = text.length();
            }
        }

        private int clause(String c) {
            int i = 0;
            while (i < c.length() && c.charAt(i) == ' ') {
                i++;
            }
            if (i == c.length()) {
                return i;
            }
            char kind = c.charAt(i);
            String allowed = kind == 's' ? "cm" : kind == 'p' ? "wtk" : kind == 'f' ? "abn" : null;
            if (allowed == null || kind == 's' && rules == 1 || kind == 'p' && p.size() == 6 || kind == 'f' && f.size() == 12) {
                return i;
            }
            Map<Character, Integer> got = new HashMap<>();
            i++;
            while (true) {
                while (i < c.length() && c.charAt(i) == ' ') {
                    i++;
                }
                if (i == c.length()) {
                    break;
                }
                char letter = c.charAt(i);
                if (allowed.indexOf(letter) < 0 || got.containsKey(letter)) {
                    return i;
                }
                i++;
                while (i < c.length() && c.charAt(i) == ' ') {
                    i++;
                }
                int start = i;
                while (i < c.length() && c.charAt(i) >= '0' && c.charAt(i) <= '9') {
                    i++;
                    if (i - start == 3) {
                        return i - 1;
                    }
                }
                if (i == start) {
                    return i;
                }
                int value = Integer.parseInt(c.substring(start, i));
                int low = letter == 'm' || letter == 'w' || letter == 'n' ? 1 : 0;
                int high = letter == 'c' || letter == 'm' ? 99 : letter == 'k' ? 1 : letter == 'a' || letter == 'b' ? 5 : 9;
                if (value < low || value > high) {
                    return i - 1;
                }
                got.put(letter, value);
            }
            if (kind == 's') {
                rules = 1;
                coins = got.getOrDefault('c', 20);
                many = got.getOrDefault('m', 20);
            } else if (kind == 'p') {
                p.add(new int[] {got.getOrDefault('w', 1), got.getOrDefault('t', 2), got.getOrDefault('k', 0)});
            } else {
                f.add(new int[] {got.getOrDefault('a', 0), got.getOrDefault('b', 1), got.getOrDefault('n', 1)});
            }
            return -1;
        }
    }

    /**
     * Reads a LAW with every choice tried: what can stand from a place on is a set of ends. The FAULT is the farthest
     * place at which a sign was wanted and not there, as each beginning of a LAW can be gone on with.
     */
    static final class LawText {
        final String s;
        final int[] letters;
        int farthest = 0;
        final Map<String, Map<Integer, Long>> known = new HashMap<>();

        LawText(String s, int[] letters) {
            this.s = s;
            this.letters = letters;
        }

        int fault() {
            Set<Integer> ends = new TreeSet<>();
            ends.add(0);
            boolean first = true;
            while (!ends.isEmpty()) {
                Set<Integer> next = new TreeSet<>();
                for (int at : ends) {
                    int behind = first ? at : sign(at, ";");
                    if (behind >= 0) {
                        for (int to : clause(behind).keySet()) {
                            if (blanks(to) == s.length()) {
                                return NONE;
                            }
                            next.add(to);
                        }
                    }
                }
                first = false;
                ends = next;
            }
            return farthest;
        }

        /** Of a LAW without FAULT. */
        long worth() {
            for (String clause : s.split(";")) {
                LawText one = new LawText(clause, letters);
                for (Map.Entry<Integer, Long> end : one.clause(0).entrySet()) {
                    if (one.blanks(end.getKey()) == clause.length() && end.getValue() != Long.MIN_VALUE) {
                        return end.getValue();
                    }
                }
            }
            return 0;
        }

        int blanks(int at) {
            int i = at;
            while (i < s.length() && s.charAt(i) == ' ') {
                i++;
            }
            return i;
        }

        int sign(int at, String signs) {
            int i = blanks(at);
            if (i < s.length() && signs.indexOf(s.charAt(i)) >= 0) {
                return i + 1;
            }
            farthest = Math.max(farthest, i);
            return -1;
        }

        /** Ends with what the SUM is worth; Long.MIN_VALUE: the CONDITION does not hold. */
        Map<Integer, Long> clause(int at) {
            Map<Integer, Long> ends = new HashMap<>();
            int i = sign(at, "y");
            i = i < 0 ? i : sign(i, ":");
            if (i < 0) {
                return ends;
            }
            ends.putAll(parse("sum", i, 0));
            for (Map.Entry<Integer, Long> c : parse("condition", i, 0).entrySet()) {
                int k = sign(c.getKey(), "?");
                if (k >= 0) {
                    for (Map.Entry<Integer, Long> v : parse("sum", k, 0).entrySet()) {
                        ends.put(v.getKey(), c.getValue() == 1 ? v.getValue() : Long.MIN_VALUE);
                    }
                }
            }
            return ends;
        }

        Map<Integer, Long> parse(String what, int at, int depth) {
            String key = what + at + "," + depth;
            Map<Integer, Long> ends = known.get(key);
            if (ends == null) {
                ends = new HashMap<>();
                switch (what) {
                    case "condition" -> row(ends, "truth", "|", at, depth);
                    case "truth" -> row(ends, "unit", "&", at, depth);
                    case "sum" -> row(ends, "term", "+-", at, depth);
                    case "term" -> row(ends, "atom", "*/", at, depth);
                    case "unit" -> unit(ends, at, depth);
                    default -> atom(ends, at, depth);
                }
                known.put(key, ends);
            }
            return ends;
        }

        void row(Map<Integer, Long> ends, String part, String between, int at, int depth) {
            ArrayDeque<Map.Entry<Integer, Long>> open = new ArrayDeque<>(parse(part, at, depth).entrySet());
            while (!open.isEmpty()) {
                Map.Entry<Integer, Long> one = open.poll();
                ends.put(one.getKey(), one.getValue());
                int i = sign(one.getKey(), between);
                if (i >= 0) {
                    char c = s.charAt(i - 1);
                    for (Map.Entry<Integer, Long> next : parse(part, i, depth).entrySet()) {
                        open.add(Map.entry(next.getKey(), joined(one.getValue(), c, next.getValue())));
                    }
                }
            }
        }

        static long joined(long a, char c, long b) {
            long v = switch (c) {
                case '|' -> Math.max(a, b);
                case '&' -> Math.min(a, b);
                case '+' -> a + b;
                case '-' -> a - b;
                case '*' -> a * b;
                default -> b == 0 ? 0 : a / b;
            };
            return v > 1000000 ? 1000000 : v < -1000000 ? -1000000 : v;
        }

        void unit(Map<Integer, Long> ends, int at, int depth) {
            int i = depth < 6 ? sign(at, "!") : -1;
            if (i >= 0) {
                for (Map.Entry<Integer, Long> u : parse("unit", i, depth + 1).entrySet()) {
                    ends.put(u.getKey(), 1 - u.getValue());
                }
            }
            i = depth < 6 ? sign(at, "(") : -1;
            if (i >= 0) {
                close(ends, parse("condition", i, depth + 1), ")");
            }
            for (Map.Entry<Integer, Long> a : parse("sum", at, depth).entrySet()) {
                int k = sign(a.getKey(), "=<>");
                if (k >= 0) {
                    char c = s.charAt(k - 1);
                    for (Map.Entry<Integer, Long> b : parse("sum", k, depth).entrySet()) {
                        int sense = Long.compare(a.getValue(), b.getValue());
                        boolean is = c == '=' ? sense == 0 : c == '<' ? sense < 0 : sense > 0;
                        ends.put(b.getKey(), is ? 1L : 0L);
                    }
                }
            }
        }

        void atom(Map<Integer, Long> ends, int at, int depth) {
            int i = depth < 6 ? sign(at, "[") : -1;
            if (i >= 0) {
                close(ends, parse("sum", i, depth + 1), "]");
            }
            i = sign(at, "iotnwd");
            if (i >= 0) {
                ends.put(i, (long) letters["iotnwd".indexOf(s.charAt(i - 1))]);
            }
            i = sign(at, "0123456789");
            for (int digits = 1; i >= 0 && digits <= 4; digits++) {
                ends.put(i, Long.parseLong(s.substring(i - digits, i)));
                boolean more = i < s.length() && Character.isDigit(s.charAt(i));
                i = more ? i + 1 : -1;
            }
        }

        void close(Map<Integer, Long> ends, Map<Integer, Long> inner, String sign) {
            for (Map.Entry<Integer, Long> one : inner.entrySet()) {
                int i = sign(one.getKey(), sign);
                if (i >= 0) {
                    ends.put(i, one.getValue());
                }
            }
        }
    }

    // ---- what stands

    boolean is(int... which) {
        for (int h : which) {
            if (h < 0 || h >= houses) {
                return false;
            }
        }
        return true;
    }

    static int in(State s, int h) {
        return Arrays.stream(s.b).mapToInt(row -> Math.max(0, row[h])).sum();
    }

    static int out(State s, int h) {
        return Arrays.stream(s.b[h]).map(v -> Math.max(0, v)).sum();
    }

    static int favours(State s) {
        return Arrays.stream(s.b).flatMapToInt(Arrays::stream).map(Math::abs).sum() / 2;
    }

    int house(int h, int what) {
        if (!is(h) || what < 0 || what > 6) {
            throw new NoSuchElementException();
        }
        return switch (what) {
            case 0 -> (int) now.w[h];
            case 1 -> temper[h];
            case 2 -> now.kept[h] ? 1 : 0;
            case 3 -> now.crossed[h];
            case 4 -> in(now, h);
            case 5 -> out(now, h);
            default -> cost(h);
        };
    }

    int cost(int h) {
        if (holds == NONE) {
            return 1;
        }
        int[] letters = {in(now, h), out(now, h), temper[h], now.crossed[h] % 100, (int) (now.w[h] % 100), now.crossings % 100};
        long worth = new LawText(laws.get(holds), letters).worth();
        return (int) (worth < 0 ? 0 : worth > 9 ? 9 : worth);
    }

    int owes(int one, int other) {
        return is(one, other) ? now.b[one][other] : HIDDEN;
    }

    boolean law(int law) {
        if (law < -1 || law >= laws.size()) {
            return false;
        }
        holds = law;
        return true;
    }

    int sung(int song, int i) {
        if (song < 0 || song >= songs.size() || i < -1 || i >= songs.get(song).length) {
            return NONE;
        }
        return i == -1 ? songs.get(song).length : songs.get(song)[i];
    }

    boolean grace(int v) {
        if (v < 0 || v > 9 || v == grace) {
            return false;
        }
        grace = v;
        return true;
    }

    // ---- crossings

    /** The state behind a crossing; null: it can't be. */
    State crossed(State s, int h) {
        if (!is(h) || s.kept[h] || s.w[h] == 0) {
            return null;
        }
        State t = s.copy();
        for (int i = 0; i < houses; i++) {
            for (int j = 0; j < houses; j++) {
                if (i == h || j == h) {
                    t.b[i][j] = -s.b[i][j];
                } else {
                    t.b[i][j] = s.b[i][j]
                        + Math.max(0, s.b[i][h]) * Math.max(0, s.b[h][j])
                        - Math.max(0, s.b[j][h]) * Math.max(0, s.b[h][i]);
                }
                if (Math.abs(t.b[i][j]) > many) {
                    return null;
                }
            }
        }
        BigInteger ahead = BigInteger.ONE;
        BigInteger behind = BigInteger.ONE;
        for (int i = 0; i < houses; i++) {
            ahead = ahead.multiply(BigInteger.valueOf(s.w[i]).pow(Math.max(0, s.b[i][h])));
            behind = behind.multiply(BigInteger.valueOf(s.w[i]).pow(Math.max(0, s.b[h][i])));
        }
        t.w[h] = ahead.add(behind).multiply(BigInteger.valueOf(s.w[h]).modInverse(P)).mod(P).longValue();
        return t;
    }

    State crossedInTheBooks(State s, int h) {
        State t = crossed(s, h);
        if (t != null) {
            t.crossed[h]++;
            t.crossings++;
            t.log.add(new int[] {h, favours(t), ringOf(t) == NONE ? 0 : 1});
        }
        return t;
    }

    void act(State then) {
        acts.add(now);
        if (acts.size() > 40) {
            acts.remove(0);
        }
        now = then;
    }

    int refuse(int why, int answer) {
        status[why]++;
        return answer;
    }

    int why(int h) {
        if (!is(h)) {
            return 0;
        }
        return now.kept[h] ? 2 : crossed(now, h) == null ? 3 : now.coins < cost(h) ? 4 : now.crossings >= 9999 ? 5 : -1;
    }

    int cross(int h) {
        int why = why(h);
        if (why >= 0) {
            return refuse(why, NONE);
        }
        int cost = cost(h);
        act(crossedInTheBooks(now, h));
        now.coins -= cost;
        return (int) now.w[h];
    }

    int sing(int song) {
        if (song < 0 || song >= songs.size() || houses == 0) {
            return refuse(0, NONE);
        }
        int n = 0;
        for (int h : songs.get(song)) {
            if (why(h) >= 0) {
                return n;
            }
            cross(h);
            n++;
        }
        return n;
    }

    int gives(int one, int other, int n) {
        if (!is(one, other)) {
            return refuse(0, HIDDEN);
        }
        if (one == other || n < 1 || n > 9) {
            return refuse(1, HIDDEN);
        }
        if (Math.abs(now.b[one][other] + n) > many) {
            return refuse(3, HIDDEN);
        }
        act(now.copy());
        now.b[one][other] += n;
        now.b[other][one] -= n;
        return now.b[one][other];
    }

    int forgives(int one, int other) {
        if (!is(one, other)) {
            return refuse(0, HIDDEN);
        }
        if (one == other) {
            return refuse(1, HIDDEN);
        }
        int owed = now.b[one][other];
        if (owed == 0) {
            return refuse(2, HIDDEN);
        }
        act(now.copy());
        now.b[one][other] = 0;
        now.b[other][one] = 0;
        return owed;
    }

    int keep(int h) {
        if (!is(h)) {
            return refuse(0, NONE);
        }
        act(now.copy());
        now.kept[h] = !now.kept[h];
        return now.kept[h] ? 1 : 0;
    }

    int give(int n) {
        if (houses == 0) {
            return refuse(0, NONE);
        }
        if (n < 1 || n > 50) {
            return refuse(1, NONE);
        }
        if (now.coins + n > 999) {
            return refuse(3, NONE);
        }
        act(now.copy());
        now.coins += n;
        return now.coins;
    }

    private BigInteger x;

    private int draw(int j) {
        BigInteger round = BigInteger.ONE.shiftLeft(64);
        x = x.multiply(new BigInteger("6364136223846793005")).add(new BigInteger("1442695040888963407")).mod(round);
        return x.shiftRight(33).mod(BigInteger.valueOf(j)).intValue();
    }

    int years(int n, long seed) {
        if (houses == 0 || n < 1 || n > 30 || now.crossings + n > 9999) {
            return NONE;
        }
        x = BigInteger.valueOf(seed).mod(BigInteger.ONE.shiftLeft(64));
        for (int i = 0; i < n; i++) {
            State then = crossedInTheBooks(now, draw(houses));
            act(then == null ? now.copy() : then);
            if (draw(10) < grace) {
                int one = draw(houses);
                int other = draw(houses);
                now.b[one][other] = 0;
                now.b[other][one] = 0;
            }
        }
        return now.crossings;
    }

    int status(int what) {
        return what < 0 || what > 5 ? NONE : status[what];
    }

    int undo() {
        if (acts.isEmpty()) {
            return NONE;
        }
        now = acts.remove(acts.size() - 1);
        return acts.size();
    }

    int log(int i, int what) {
        if (now == null || i < 0 || i >= Math.min(60, now.log.size()) || what < 0 || what > 2) {
            return NONE;
        }
        return now.log.get(now.log.size() - 1 - i)[what];
    }

    // ---- apart

    /** The state behind a SONG so many times; null: it can't be. */
    State behind(State s, int song, int n) {
        State t = s;
        for (int i = 0; i < n; i++) {
            for (int h : songs.get(song)) {
                t = t == null ? null : crossed(t, h);
            }
        }
        return t;
    }

    boolean isSong(int song) {
        return song >= 0 && song < songs.size();
    }

    int after(int song, int n, int one, int other) {
        if (!isSong(song) || n < 0 || n > 60 || !is(one, other)) {
            return HIDDEN;
        }
        State t = behind(now, song, n);
        return t == null ? HIDDEN : t.b[one][other];
    }

    int worthAfter(int song, int n, int h) {
        if (!isSong(song) || n < 0 || n > 60 || !is(h)) {
            return HIDDEN;
        }
        State t = behind(now, song, n);
        return t == null ? HIDDEN : (int) t.w[h];
    }

    int again(int song, int what) {
        if (!isSong(song) || houses == 0 || what < 0 || what > 1) {
            return NONE;
        }
        State t = now;
        for (int n = 1; n <= 60; n++) {
            t = behind(t, song, 1);
            if (t == null) {
                return NONE;
            }
            if (Arrays.deepEquals(t.b, now.b) && (what == 0 || Arrays.equals(t.w, now.w))) {
                return n;
            }
        }
        return NONE;
    }

    int like(int song) {
        if (!isSong(song) || houses == 0) {
            return NONE;
        }
        State t = behind(now, song, 1);
        if (t == null) {
            return NONE;
        }
        List<List<Integer>> orders = new ArrayList<>();
        orders.add(new ArrayList<>());
        for (int h = 0; h < houses; h++) {
            List<List<Integer>> longer = new ArrayList<>();
            for (List<Integer> order : orders) {
                for (int at = 0; at <= order.size(); at++) {
                    List<Integer> one = new ArrayList<>(order);
                    one.add(at, h);
                    longer.add(one);
                }
            }
            orders = longer;
        }
        for (List<Integer> order : orders) {
            boolean same = true;
            for (int i = 0; i < houses; i++) {
                for (int j = 0; j < houses; j++) {
                    same &= t.b[order.get(i)][order.get(j)] == now.b[i][j];
                }
            }
            if (same) {
                return 1;
            }
        }
        return 0;
    }

    /** All states by n crossings exactly, each behind its row of digits, in the rows' order. */
    List<Map.Entry<Integer, State>> rows(int n) {
        List<Map.Entry<Integer, State>> all = new ArrayList<>();
        if (n == 0) {
            all.add(Map.entry(0, now));
            return all;
        }
        for (Map.Entry<Integer, State> one : rows(n - 1)) {
            for (int h = 0; h < houses; h++) {
                State t = crossed(one.getValue(), h);
                if (t != null) {
                    all.add(Map.entry(10 * one.getKey() + h, t));
                }
            }
        }
        return all;
    }

    int reach(int n) {
        if (houses == 0 || n < 0 || n > 4) {
            return NONE;
        }
        Set<String> tables = new HashSet<>();
        for (int k = 0; k <= n; k++) {
            for (Map.Entry<Integer, State> one : rows(k)) {
                tables.add(Arrays.deepToString(one.getValue().b));
            }
        }
        return tables.size();
    }

    int straight(int what) {
        if (houses == 0 || what < 0 || what > 1) {
            return NONE;
        }
        for (int k = 0; k <= 4; k++) {
            int best = rows(k).stream().filter(e -> ringOf(e.getValue()) == NONE).mapToInt(Map.Entry::getKey).min().orElse(-1);
            if (best >= 0) {
                return what == 0 ? k : best;
            }
        }
        return NONE;
    }

    int fewest(int n, int what) {
        if (houses == 0 || n < 0 || n > 4 || what < 0 || what > 1) {
            return NONE;
        }
        int least = Integer.MAX_VALUE;
        int row = 0;
        for (int k = 0; k <= n; k++) {
            int here = rows(k).stream().mapToInt(e -> favours(e.getValue())).min().orElse(Integer.MAX_VALUE);
            if (here < least) {
                least = here;
                row = rows(k).stream().filter(e -> favours(e.getValue()) == here).mapToInt(Map.Entry::getKey).min().getAsInt();
            }
        }
        return what == 0 ? least : row;
    }

    /** The fewest steps, one at least, by powers of the table of who OWES whom. */
    static int steps(State s, int from, int to) {
        Set<Integer> at = new HashSet<>(List.of(from));
        for (int n = 1; n <= s.b.length; n++) {
            Set<Integer> next = new HashSet<>();
            for (int i : at) {
                for (int j = 0; j < s.b.length; j++) {
                    if (s.b[i][j] > 0) {
                        next.add(j);
                    }
                }
            }
            if (next.contains(to)) {
                return n;
            }
            at = next;
        }
        return NONE;
    }

    static int ringOf(State s) {
        int best = NONE;
        for (int i = 0; i < s.b.length; i++) {
            int n = steps(s, i, i);
            best = n != NONE && (best == NONE || n < best) ? n : best;
        }
        return best;
    }

    int ring() {
        return houses == 0 ? NONE : ringOf(now);
    }

    int chain(int from, int to) {
        return !is(from, to) ? NONE : from == to ? 0 : steps(now, from, to);
    }

    int seen(int one, int other, int n, int v, boolean is) {
        if (!is(one, other) || one == other || n < 1 || n > 9 || v < -99 || v > 99 || sights.size() == 10) {
            return NONE;
        }
        sights.add(new int[] {one, other, n, v, is ? 1 : 0});
        return sights.size();
    }

    int fits() {
        if (houses == 0) {
            return NONE;
        }
        int bits = 0;
        for (int song = 0; song < songs.size(); song++) {
            boolean all = true;
            for (int[] s : sights) {
                State t = behind(told, song, s[2]);
                boolean owed = t != null && t.b[s[0]][s[1]] == s[3];
                all &= owed == (s[4] == 1);
            }
            bits += all ? 1 << song : 0;
        }
        return bits;
    }

    int ask(int one, int other) {
        if (!is(one, other) || one == other || fits() == 0) {
            return NONE;
        }
        int best = NONE;
        int fewest = 99;
        for (int n = 1; n <= 9; n++) {
            Map<String, Integer> alike = new HashMap<>();
            for (int song = 0; song < songs.size(); song++) {
                if ((fits() >> song & 1) == 1) {
                    State t = behind(told, song, n);
                    alike.merge(t == null ? "can't be" : "" + t.b[one][other], 1, Integer::sum);
                }
            }
            int most = alike.values().stream().max(Integer::compare).get();
            if (most < fewest) {
                fewest = most;
                best = n;
            }
        }
        return best;
    }

    State perhaps(State s, int h) {
        State t = crossed(s, h);
        return t == null ? s : t;
    }

    int game(int one, int other, int x, int y, int what) {
        if (!is(one, other) || one == other || x < 0 || x > 1 || y < 0 || y > 1 || what < 0 || what > 1) {
            return HIDDEN;
        }
        State t = x == 1 ? perhaps(now, one) : now;
        t = y == 1 ? perhaps(t, other) : t;
        return what == 0 ? in(t, one) - out(t, one) - x : in(t, other) - out(t, other) - y;
    }

    int rests(int one, int other, int i) {
        if (!is(one, other) || one == other) {
            return NONE;
        }
        List<Integer> found = new ArrayList<>();
        for (int v : new int[] {0, 1, 10, 11}) {
            int x = v / 10;
            int y = v % 10;
            boolean better = game(one, other, 1 - x, y, 0) > game(one, other, x, y, 0)
                || game(one, other, x, 1 - y, 1) > game(one, other, x, y, 1);
            if (!better) {
                found.add(v);
            }
        }
        return i == -1 ? found.size() : i >= 0 && i < found.size() ? found.get(i) : NONE;
    }

    int odds(int song, int chance) {
        if (!isSong(song) || houses == 0 || songs.get(song).length > 8 || chance < 0 || chance > 100) {
            return NONE;
        }
        List<State> states = new ArrayList<>(List.of(now));
        List<Long> parts = new ArrayList<>(List.of(1000000000L));
        for (int digit : songs.get(song)) {
            List<State> nextStates = new ArrayList<>();
            List<Long> nextParts = new ArrayList<>();
            for (int i = 0; i < states.size(); i++) {
                State s = states.get(i);
                long slip = parts.get(i) * chance / 100;
                nextStates.add(perhaps(s, digit));
                nextParts.add(parts.get(i) - slip);
                nextStates.add(is(digit) ? perhaps(s, (digit + 1) % houses) : s);
                nextParts.add(slip);
            }
            states = nextStates;
            parts = nextParts;
        }
        long quiet = 0;
        for (int i = 0; i < states.size(); i++) {
            quiet += ringOf(states.get(i)) == NONE ? parts.get(i) : 0;
        }
        return (int) quiet;
    }

    int shares(int h, int c) {
        if (!is(h) || c < 0 || c > 999) {
            return NONE;
        }
        int whole = 0;
        for (int i = 0; i < houses; i++) {
            whole += in(now, i);
        }
        return whole == 0 ? 0 : c * in(now, h) / whole;
    }

    int all(int what) {
        if (houses == 0 || what < 0 || what > 13) {
            return HIDDEN;
        }
        int best = 0;
        int bits = 0;
        int pairs = 0;
        int most = 0;
        for (int h = 0; h < houses; h++) {
            best = amount(h, what) > amount(best, what) ? h : best;
            int comes = in(now, h);
            int goes = out(now, h);
            boolean is = what == 7 && goes > 0 && comes == 0 || what == 8 && comes > 0 && goes == 0
                || what == 9 && comes + goes == 0 || what == 10 && now.kept[h] || what == 11 && crossed(now, h) != null;
            bits += is ? 1 << h : 0;
            for (int k = 0; k < h; k++) {
                pairs += now.b[h][k] != 0 ? 1 : 0;
                most = Math.max(most, Math.abs(now.b[h][k]));
            }
        }
        if (what < 5) {
            return best;
        }
        return switch (what) {
            case 5 -> favours(now);
            case 6 -> pairs;
            case 12 -> ringOf(now) != NONE ? NONE : longest();
            case 13 -> most;
            default -> bits;
        };
    }

    private long amount(int h, int what) {
        return switch (what) {
            case 0 -> in(now, h);
            case 1 -> out(now, h);
            case 2 -> now.w[h];
            case 3 -> now.crossed[h];
            case 4 -> temper[h];
            default -> 0;
        };
    }

    private int longest() {
        int best = 0;
        for (int h = 0; h < houses; h++) {
            best = Math.max(best, longestFrom(h));
        }
        return best;
    }

    private int longestFrom(int h) {
        int best = 1;
        for (int k = 0; k < houses; k++) {
            if (now.b[h][k] > 0) {
                best = Math.max(best, 1 + longestFrom(k));
            }
        }
        return best;
    }

    int image() {
        if (houses == 0) {
            return NONE;
        }
        imaged = now.copy();
        return now.crossings;
    }

    int back() {
        if (imaged == null) {
            return NONE;
        }
        now = imaged.copy();
        acts.clear();
        return now.crossings;
    }

    int count(int what) {
        return switch (what) {
            case 0 -> houses;
            case 1 -> many;
            case 2 -> laws.size();
            case 3 -> songs.size();
            case 4 -> tape.length();
            case 5 -> holds;
            case 6 -> now == null ? 0 : now.crossings;
            case 7 -> now == null ? 0 : now.coins;
            case 8 -> grace;
            case 9 -> sights.size();
            case 10 -> now == null ? 0 : Math.min(60, now.log.size());
            case 11 -> acts.size();
            default -> HIDDEN;
        };
    }
}
