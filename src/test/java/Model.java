import java.math.BigInteger;
import java.util.ArrayList;
import java.util.Arrays;
import java.util.HashMap;
import java.util.HashSet;
import java.util.List;
import java.util.Map;
import java.util.Set;
import java.util.TreeSet;

/** The document once more, slow and with texts and sets: what AgainstModelTest asks beside the class. */
final class Model {
    private static final int[] PARENT = {-1, 0, 0, 2, 1, 1};

    private record Work(String raw, int kind, int day) { }

    private record Letter(char told, int place) { }

    private record Match(int a, int b, int n) implements Comparable<Match> {
        public int compareTo(Match o) {
            return a != o.a ? a - o.a : b != o.b ? b - o.b : n - o.n;
        }
    }

    private record Span(int first, int last, int source) { }

    private record Asked(Work work, int k, int n) { }

    /** What was told of a work is the same each time; kept, as the model asks it over and over. */
    private static final Map<Work, List<Letter>> LETTERS = new HashMap<>();
    private static final Map<Asked, List<String>> GRAMS = new HashMap<>();
    private static final Map<Asked, TreeSet<Integer>> PRINTS = new HashMap<>();
    private static final Map<String, Integer> MARKS = new HashMap<>();

    static void forget() {
        LETTERS.clear();
        GRAMS.clear();
        PRINTS.clear();
        MARKS.clear();
    }

    private Work[] works = new Work[5];
    private int[] rules = {3, 2, 6, -1, 4, 50};
    private Work[] keptWorks;
    private int[] keptRules;
    private String tape = "";
    private final int[][] sheets = new int[4][];
    private final int[] sorts = new int[4];

    private static boolean in(int v, int least, int most) {
        return least <= v && v <= most;
    }

    // ---- letters

    private static boolean az(String s, int i) {
        return i >= 0 && i < s.length() && Character.isLowerCase(s.charAt(i));
    }

    private static boolean digit(String s, int i) {
        return i >= 0 && i < s.length() && Character.isDigit(s.charAt(i));
    }

    private static List<Letter> letters(Work w) {
        return LETTERS.computeIfAbsent(w, Model::read);
    }

    private static List<Letter> read(Work w) {
        List<Letter> all = new ArrayList<>();
        if (w == null) {
            return all;
        }
        String s = w.raw;
        for (int i = 0; i < s.length(); i++) {
            long quotes = s.substring(0, i).chars().filter(c -> c == '"').count();
            boolean unquoted = quotes % 2 == 0;
            char c = s.charAt(i);
            if (w.kind == 0 && az(s, i)) {
                all.add(new Letter(c, i));
            } else if (w.kind == 1 && az(s, i) && unquoted) {
                all.add(new Letter(c, i));
            } else if (w.kind == 2 || w.kind == 3) {
                if (digit(s, i) && !digit(s, i - 1)) {
                    all.add(new Letter('#', i));
                } else if (az(s, i)) {
                    boolean alone = !az(s, i - 1) && !az(s, i + 1);
                    all.add(new Letter(w.kind == 3 && alone ? 'v' : c, i));
                }
            } else if (w.kind == 4) {
                if (c == '\n') {
                    all.add(new Letter('/', i));
                } else if (az(s, i) && unquoted) {
                    all.add(new Letter(c, i));
                }
            } else if (w.kind == 5 && az(s, i) && unquoted && (i == 0 || s.charAt(i - 1) != c)) {
                all.add(new Letter(c, i));
            }
        }
        return all;
    }

    private static String text(Work w) {
        StringBuilder b = new StringBuilder();
        for (Letter l : letters(w)) {
            b.append(l.told);
        }
        return b.toString();
    }

    // ---- grams, prints

    private List<String> grams(Work w) {
        return GRAMS.computeIfAbsent(new Asked(w, rules[0], 0), a -> cutGrams(w));
    }

    private List<String> cutGrams(Work w) {
        String t = text(w);
        List<String> all = new ArrayList<>();
        for (int i = 0; i + rules[0] <= t.length(); i++) {
            all.add(t.substring(i, i + rules[0]));
        }
        return all;
    }

    private static int mark(String gram) {
        return MARKS.computeIfAbsent(gram, Model::bigMark);
    }

    private static int bigMark(String gram) {
        BigInteger m = BigInteger.ZERO;
        for (char c : gram.toCharArray()) {
            m = m.multiply(BigInteger.valueOf(31)).add(BigInteger.valueOf(c));
        }
        return m.intValue();
    }

    private TreeSet<Integer> prints(Work w) {
        return PRINTS.computeIfAbsent(new Asked(w, rules[0], rules[1]), a -> pickPrints(w));
    }

    private TreeSet<Integer> pickPrints(Work w) {
        List<String> g = grams(w);
        TreeSet<Integer> picked = new TreeSet<>();
        int windows = g.isEmpty() ? 0 : Math.max(1, g.size() - rules[1] + 1);
        for (int k = 0; k < windows; k++) {
            int end = Math.min(g.size(), k + rules[1]);
            int least = g.subList(k, end).stream().mapToInt(Model::mark).min().getAsInt();
            for (int i = end - 1; i >= k; i--) {
                if (mark(g.get(i)) == least) {
                    picked.add(i);
                    break;
                }
            }
        }
        return picked;
    }

    private int worksWith(String gram) {
        int n = 0;
        for (Work w : works) {
            n += w != null && grams(w).contains(gram) ? 1 : 0;
        }
        return n;
    }

    private boolean isCommon(String gram) {
        return worksWith(gram) >= rules[2] || rules[3] >= 0 && works[rules[3]] != null && grams(works[rules[3]]).contains(gram);
    }

    // ---- matches

    private List<Match> matches(int x, int y) {
        TreeSet<Match> found = new TreeSet<>();
        String a = text(works[x]);
        String b = text(works[y]);
        List<String> ga = grams(works[x]);
        List<String> gb = grams(works[y]);
        Map<String, Boolean> common = new HashMap<>();
        for (int p : prints(works[x])) {
            for (int q : prints(works[y])) {
                String gram = ga.get(p);
                if (!gram.equals(gb.get(q)) || common.computeIfAbsent(gram, this::isCommon)) {
                    continue;
                }
                int back = 0;
                while (p > back && q > back && a.charAt(p - back - 1) == b.charAt(q - back - 1)) {
                    back++;
                }
                int on = 0;
                while (p + on < a.length() && q + on < b.length() && a.charAt(p + on) == b.charAt(q + on)) {
                    on++;
                }
                if (back + on >= rules[4]) {
                    found.add(new Match(p - back, q - back, back + on));
                }
            }
        }
        return new ArrayList<>(found);
    }

    /** For each match the best row that begins with it, rows compared by letters, then place by place. */
    private static List<Integer> chain(List<Match> all) {
        List<List<Integer>> rows = new ArrayList<>();
        for (int k = 0; k < all.size(); k++) {
            rows.add(null);
        }
        for (int k = all.size() - 1; k >= 0; k--) {
            List<Integer> tail = List.of();
            for (int j = 0; j < all.size(); j++) {
                Match m = all.get(k);
                Match o = all.get(j);
                if (o.a >= m.a + m.n && o.b >= m.b + m.n && better(all, rows.get(j), tail)) {
                    tail = rows.get(j);
                }
            }
            List<Integer> row = new ArrayList<>(List.of(k));
            row.addAll(tail);
            rows.set(k, row);
        }
        List<Integer> best = List.of();
        for (List<Integer> row : rows) {
            if (better(all, row, best)) {
                best = row;
            }
        }
        return best;
    }

    private static int weight(List<Match> all, List<Integer> row) {
        return row.stream().mapToInt(k -> all.get(k).n).sum();
    }

    private static boolean better(List<Match> all, List<Integer> row, List<Integer> than) {
        int d = weight(all, row) - weight(all, than);
        if (d != 0) {
            return d > 0;
        }
        for (int i = 0; i < row.size() && i < than.size(); i++) {
            if (!row.get(i).equals(than.get(i))) {
                return row.get(i) < than.get(i);
            }
        }
        return false;
    }

    // ---- spans

    private int[] sources(int x) {
        int[] source = new int[text(works[x]).length()];
        int[] longest = new int[source.length];
        Arrays.fill(source, -1);
        for (int o = 0; o < 5; o++) {
            if (o == x || works[o] == null) {
                continue;
            }
            for (Match m : matches(x, o)) {
                for (int i = m.a; i < m.a + m.n; i++) {
                    boolean takes = source[i] < 0 || m.n > longest[i];
                    if (!takes && m.n == longest[i]) {
                        int d = works[o].day - works[source[i]].day;
                        takes = d < 0 || d == 0 && o < source[i];
                    }
                    if (takes) {
                        source[i] = o;
                        longest[i] = m.n;
                    }
                }
            }
        }
        return source;
    }

    private List<Span> spans(int x) {
        int[] source = sources(x);
        List<Letter> l = letters(works[x]);
        List<Span> all = new ArrayList<>();
        for (int i = 0; i < source.length;) {
            int end = i;
            while (end + 1 < source.length && source[end + 1] == source[i]) {
                end++;
            }
            if (source[i] >= 0) {
                all.add(new Span(l.get(i).place, l.get(end).place, source[i]));
            }
            i = end + 1;
        }
        return all;
    }

    private int covered(int x) {
        return (int) Arrays.stream(sources(x)).filter(s -> s >= 0).count();
    }

    private int percent(int x) {
        int n = text(works[x]).length();
        return n == 0 ? 0 : 100 * covered(x) / n;
    }

    private int lettersIn(List<Match> all, boolean other) {
        Set<Integer> seen = new HashSet<>();
        for (Match m : all) {
            for (int i = 0; i < m.n; i++) {
                seen.add((other ? m.b : m.a) + i);
            }
        }
        return seen.size();
    }

    private boolean bound(int a, int b) {
        if (works[a] == null || works[b] == null) {
            return false;
        }
        List<Match> all = matches(a, b);
        int na = lettersIn(all, false);
        int nb = lettersIn(all, true);
        return na > 0 && 100 * na >= rules[5] * text(works[a]).length()
            || nb > 0 && 100 * nb >= rules[5] * text(works[b]).length();
    }

    private int drawnShare(int x, int seed, int n, int what) {
        Work was = works[x];
        StringBuilder raw = new StringBuilder(was.raw);
        int z = seed;
        for (int i = 0; i < n; i++) {
            z = z * 1103515245 + 12345;
            int place = (z >>> 9) % raw.length();
            z = z * 1103515245 + 12345;
            raw.setCharAt(place, (char) (97 + (z >>> 9) % 26));
        }
        works[x] = new Work(raw.toString(), was.kind, was.day);
        int got = what == 0 ? covered(x) : percent(x);
        works[x] = was;
        return got;
    }

    private static int terms(int above, int below, int part) {
        if (above == 0) {
            return part;
        }
        int g = BigInteger.valueOf(above).gcd(BigInteger.valueOf(below)).intValue();
        return (part == 0 ? above : below) / g;
    }

    // ---- calls

    private boolean bad(int work) {
        return !in(work, 0, 4);
    }

    private boolean bad(int work, int other) {
        return bad(work) || bad(other) || work == other;
    }

    private int there() {
        return (int) Arrays.stream(works).filter(w -> w != null).count();
    }

    int feed(int n, int a, int b, int c, int d, int e) {
        int[] v = {a, b, c, d, e};
        if (!in(n, 1, 5) || !Arrays.stream(v).allMatch(x -> in(x, 0, 255))) {
            return -2;
        }
        if (tape.length() + n > 50) {
            return -4;
        }
        for (int i = 0; i < n; i++) {
            tape += (char) v[i];
        }
        return tape.length();
    }

    int work(int work, int kind, int day) {
        if (bad(work) || !in(kind, 0, 5) || !in(day, 0, 99)) {
            return -2;
        }
        String t = tape;
        tape = "";
        if (!t.matches("[a-z0-9 \n\"]+")) {
            return -3;
        }
        works[work] = new Work(t, kind, day);
        return t.length();
    }

    int splice(int work, int at, int other, int from, int n) {
        if (bad(work) || bad(other)) {
            return -2;
        }
        if (works[work] == null || works[other] == null) {
            return -11;
        }
        String t = works[work].raw;
        String o = works[other].raw;
        if (!in(at, 0, t.length()) || n < 1 || from < 0 || (long) from + n > o.length()) {
            return -12;
        }
        if (t.length() + n > 50) {
            return -4;
        }
        String made = t.substring(0, at) + o.substring(from, from + n) + t.substring(at);
        works[work] = new Work(made, works[work].kind, works[work].day);
        return made.length();
    }

    int cut(int work, int at, int n) {
        if (bad(work)) {
            return -2;
        }
        if (works[work] == null) {
            return -11;
        }
        String t = works[work].raw;
        if (at < 0 || n < 1 || (long) at + n > t.length()) {
            return -12;
        }
        String made = t.substring(0, at) + t.substring(at + n);
        if (made.isEmpty()) {
            return -3;
        }
        works[work] = new Work(made, works[work].kind, works[work].day);
        return made.length();
    }

    int drop(int work) {
        if (bad(work)) {
            return -2;
        }
        if (works[work] == null) {
            return -11;
        }
        int n = works[work].raw.length();
        works[work] = null;
        return n;
    }

    int alter(int work, int what, int v) {
        if (bad(work) || !in(what, 0, 1) || !in(v, 0, what == 0 ? 5 : 99)) {
            return -2;
        }
        Work w = works[work];
        if (w == null) {
            return -11;
        }
        works[work] = new Work(w.raw, what == 0 ? v : w.kind, what == 1 ? v : w.day);
        return what == 0 ? w.kind : w.day;
    }

    int raw(int work, int i) {
        if (bad(work)) {
            return -2;
        }
        if (works[work] == null) {
            return -11;
        }
        String t = works[work].raw;
        return i == -1 ? t.length() : in(i, 0, t.length() - 1) ? t.charAt(i) : -12;
    }

    int letter(int work, int i, int what) {
        if (bad(work) || !in(what, 0, 1)) {
            return -2;
        }
        if (works[work] == null) {
            return -11;
        }
        List<Letter> l = letters(works[work]);
        if (i == -1) {
            return l.size();
        }
        if (!in(i, 0, l.size() - 1)) {
            return -12;
        }
        return what == 0 ? l.get(i).told : l.get(i).place;
    }

    int taken(int work, int k) {
        if (bad(work) || !in(k, 0, 5)) {
            return -2;
        }
        Work w = works[work];
        if (w == null) {
            return -11;
        }
        Set<Integer> over = new HashSet<>();
        for (int x = w.kind; x >= 0; x = PARENT[x]) {
            over.add(x);
        }
        if (!over.contains(k)) {
            return -13;
        }
        Set<Letter> plain = new HashSet<>(letters(new Work(w.raw, 0, 0)));
        return (int) letters(w).stream().filter(l -> !plain.contains(l)).count();
    }

    int rule(int what, int v) {
        int[][] bounds = {{2, 6}, {1, 6}, {2, 6}, {-1, 4}, {1, 50}, {0, 100}};
        if (!in(what, 0, 5) || !in(v, bounds[what][0], bounds[what][1])) {
            return -2;
        }
        int was = rules[what];
        rules[what] = v;
        return was;
    }

    long mark(int work, int i) {
        if (bad(work) || works[work] == null || !in(i, 0, grams(works[work]).size() - 1)) {
            return -(1L << 62);
        }
        return mark(grams(works[work]).get(i));
    }

    int print(int work, int k, int what) {
        if (bad(work) || !in(what, 0, 2)) {
            return -2;
        }
        if (works[work] == null) {
            return -11;
        }
        List<Integer> p = new ArrayList<>(prints(works[work]));
        if (k == -1) {
            return p.size();
        }
        if (!in(k, 0, p.size() - 1)) {
            return -12;
        }
        String gram = grams(works[work]).get(p.get(k));
        return what == 0 ? p.get(k) : what == 1 ? worksWith(gram) : isCommon(gram) ? 1 : 0;
    }

    int common(int work, int what) {
        if (bad(work) || !in(what, 0, 1)) {
            return -2;
        }
        if (works[work] == null) {
            return -11;
        }
        List<String> g = grams(works[work]);
        int n = 0;
        for (int i = 0; i < g.size(); i++) {
            n += isCommon(g.get(i)) && (what == 0 || prints(works[work]).contains(i)) ? 1 : 0;
        }
        return n;
    }

    int match(int work, int other, int k, int what) {
        if (bad(work, other) || !in(what, 0, 3)) {
            return -2;
        }
        if (works[work] == null || works[other] == null) {
            return -11;
        }
        List<Match> all = matches(work, other);
        if (k == -1) {
            return all.size();
        }
        if (!in(k, 0, all.size() - 1)) {
            return -12;
        }
        Match m = all.get(k);
        return what == 0 ? m.a : what == 1 ? m.b : what == 2 ? m.n : chain(all).contains(k) ? 1 : 0;
    }

    int chain(int work, int other, int what) {
        if (bad(work, other) || !in(what, 0, 2)) {
            return -2;
        }
        if (works[work] == null || works[other] == null) {
            return -11;
        }
        List<Match> all = matches(work, other);
        List<Integer> row = chain(all);
        int whole = all.stream().mapToInt(Match::n).sum();
        return what == 0 ? weight(all, row) : what == 1 ? row.size() : whole - weight(all, row);
    }

    int like(int work, int other, int part) {
        if (bad(work, other) || !in(part, 0, 1)) {
            return -2;
        }
        if (works[work] == null || works[other] == null) {
            return -11;
        }
        Set<String> a = new HashSet<>();
        prints(works[work]).forEach(p -> a.add(grams(works[work]).get(p)));
        Set<String> b = new HashSet<>();
        prints(works[other]).forEach(p -> b.add(grams(works[other]).get(p)));
        Set<String> any = new HashSet<>(a);
        any.addAll(b);
        any.removeIf(this::isCommon);
        Set<String> both = new HashSet<>(any);
        both.retainAll(a);
        both.retainAll(b);
        return terms(both.size(), any.size(), part);
    }

    int span(int work, int k, int what) {
        if (bad(work) || !in(what, 0, 2)) {
            return -2;
        }
        if (works[work] == null) {
            return -11;
        }
        List<Span> all = spans(work);
        if (k == -1) {
            return all.size();
        }
        if (!in(k, 0, all.size() - 1)) {
            return -12;
        }
        Span s = all.get(k);
        return what == 0 ? s.first : what == 1 ? s.last : s.source;
    }

    int source(int work, int i) {
        if (bad(work)) {
            return -2;
        }
        if (works[work] == null) {
            return -11;
        }
        int[] s = sources(work);
        return in(i, 0, s.length - 1) ? s[i] : -12;
    }

    int share(int work, int what) {
        if (bad(work) || !in(what, 0, 2)) {
            return -2;
        }
        if (works[work] == null) {
            return -11;
        }
        if (what < 2) {
            return what == 0 ? covered(work) : percent(work);
        }
        int[] tally = new int[5];
        Arrays.stream(sources(work)).filter(s -> s >= 0).forEach(s -> tally[s]++);
        int most = Arrays.stream(tally).max().getAsInt();
        for (int o = 0; o < 5 && most > 0; o++) {
            if (tally[o] == most) {
                return o;
            }
        }
        return -1;
    }

    int group(int work) {
        if (bad(work)) {
            return -2;
        }
        if (works[work] == null) {
            return -11;
        }
        TreeSet<Integer> in = new TreeSet<>(Set.of(work));
        List<Integer> open = new ArrayList<>(in);
        while (!open.isEmpty()) {
            int x = open.remove(0);
            for (int o = 0; o < 5; o++) {
                if (o != x && bound(x, o) && in.add(o)) {
                    open.add(o);
                }
            }
        }
        return in.stream().mapToInt(o -> 1 << o).sum();
    }

    int without(int work, int other) {
        if (bad(work, other)) {
            return -2;
        }
        if (works[work] == null || works[other] == null) {
            return -11;
        }
        Work was = works[other];
        works[other] = null;
        int got = covered(work);
        works[other] = was;
        return got;
    }

    int drawn(int work, int seed, int n, int what) {
        if (bad(work) || !in(n, 0, 20) || !in(what, 0, 1)) {
            return -2;
        }
        return works[work] == null ? -11 : drawnShare(work, seed, n, what);
    }

    int chance(int work, int seed, int m, int share, int part) {
        if (bad(work) || !in(m, 1, 3) || !in(share, 0, 100) || !in(part, 0, 1)) {
            return -2;
        }
        if (works[work] == null) {
            return -11;
        }
        int n = 0;
        for (int i = 0; i < m; i++) {
            n += drawnShare(work, seed + i, 3, 1) >= share ? 1 : 0;
        }
        return terms(n, m, part);
    }

    private int otherwise(int sheet, int work) {
        List<Integer> due = told(work);
        int[] row = sheets[sheet];
        int i = 0;
        while (i < row.length && i < due.size() && row[i] == due.get(i)) {
            i++;
        }
        return i == row.length && i == due.size() ? -1 : i;
    }

    private List<Integer> told(int work) {
        List<Integer> due = new ArrayList<>();
        for (Span s : spans(work)) {
            due.add(s.first);
            due.add(s.last);
        }
        return due;
    }

    int tells(int sheet, int work, int what) {
        if (!in(sheet, 0, 3) || bad(work) || !in(what, 0, 2)) {
            return -2;
        }
        if (works[work] == null || sheets[sheet] == null) {
            return -11;
        }
        if (sheets[sheet].length > 20) {
            return -2;
        }
        if (what == 0) {
            return otherwise(sheet, work);
        }
        int was = rules[4];
        int got = -1;
        for (int least = 1; least <= 50; least++) {
            rules[4] = least;
            if (otherwise(sheet, work) == -1) {
                got = what == 1 && got != -1 ? got : least;
            }
        }
        rules[4] = was;
        return got;
    }

    int film(int sheet, int work) {
        if (!in(sheet, 0, 3) || bad(work)) {
            return -2;
        }
        if (works[work] == null) {
            return -11;
        }
        sheets[sheet] = told(work).stream().limit(20).mapToInt(v -> v).toArray();
        sorts[sheet] = 0;
        return sheets[sheet].length;
    }

    int image() {
        keptWorks = works.clone();
        keptRules = rules.clone();
        return there();
    }

    int back() {
        if (keptWorks == null) {
            return -3;
        }
        works = keptWorks.clone();
        rules = keptRules.clone();
        return there();
    }

    int count(int what) {
        int raw = 0;
        int letters = 0;
        int prints = 0;
        Set<String> unlike = new HashSet<>();
        for (Work w : works) {
            raw += w == null ? 0 : w.raw.length();
            letters += letters(w).size();
            prints += prints(w).size();
            unlike.addAll(grams(w));
        }
        int[] all = {there(), raw, letters, prints, unlike.size(), tape.length()};
        return in(what, 0, 5) ? all[what] : -2;
    }

    int sheet(int sheet, int sort, int n) {
        if (!in(sheet, 0, 3) || !in(sort, -1, 1) || sort >= 0 && n > 40) {
            return -2;
        }
        if (sort >= 0 && n < 0) {
            return -14;
        }
        sheets[sheet] = sort < 0 ? null : new int[n];
        sorts[sheet] = sort;
        return 1;
    }

    int put(int sheet, int i, int v) {
        if (!in(sheet, 0, 3)) {
            return -2;
        }
        if (sheets[sheet] == null) {
            return -11;
        }
        if (!in(i, 0, sheets[sheet].length - 1)) {
            return -12;
        }
        sheets[sheet][i] = sorts[sheet] == 0 ? Math.floorMod(v, 256) : v;
        return 1;
    }

    int copy(int sheet, int i, int other, int j, int n) {
        if (!in(sheet, 0, 3) || !in(other, 0, 3)) {
            return -2;
        }
        if (sheets[sheet] == null || sheets[other] == null) {
            return -11;
        }
        if (sorts[sheet] != sorts[other]) {
            return -13;
        }
        int[] from = sheets[sheet].clone();
        int[] to = sheets[other];
        if (n < 0 || i < 0 || j < 0 || (long) i + n > from.length || (long) j + n > to.length) {
            return -12;
        }
        for (int t = 0; t < n; t++) {
            to[j + t] = from[i + t];
        }
        return n;
    }
}
