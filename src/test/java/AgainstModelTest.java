import java.util.ArrayList;
import java.util.List;
import java.util.TreeMap;

/** Drawn runs of calls, each call asked of the class and of the model; the draws are the same each time. */
public final class AgainstModelTest {
    private static final String[] SIGNS = {"ab", "abc", "a\"b", "ab1 ", "abcde", "ab\n\"", "abcdefghijklmnopqrstuvwxyz", "a1 \n\"b2"};

    private static long state = 20261118;
    private static int wrong = 0;
    private static final TreeMap<String, TreeMap<String, Integer>> SEEN = new TreeMap<>();

    private final HandedWorks x = new HandedWorks();
    private final Model y = new Model();
    private final List<String> calls = new ArrayList<>();
    private final String signs = SIGNS[draw(SIGNS.length)];
    private final List<String> handed = new ArrayList<>();
    private boolean broken = false;

    private static int draw(int n) {
        state = state * 6364136223846793005L + 1442695040888963407L;
        return (int) ((state >>> 33) % n);
    }

    /** Mostly least .. most; now and then a number near them or far off. */
    private static int around(int least, int most) {
        int kind = draw(40);
        if (kind == 0) {
            return new int[] {least - 1, most + 1, Integer.MIN_VALUE, Integer.MAX_VALUE, 0, -1, least - 2}[draw(7)];
        }
        return least + draw(most - least + 1);
    }

    private static int someWork() {
        return around(0, 4);
    }

    private void due(String name, int[] with, long got, long want) {
        StringBuilder call = new StringBuilder(name).append('(');
        for (int v : with) {
            call.append(call.charAt(call.length() - 1) == '(' ? "" : ", ").append(v);
        }
        calls.add(call.append(") -> ").append(got).toString());
        String sort = name.equals("mark") && want > Long.MIN_VALUE / 2 ? "mark" : want < -1 ? Long.toString(want) : want == -1 ? "NONE" : want == 0 ? "0" : "more";
        SEEN.computeIfAbsent(name, k -> new TreeMap<>()).merge(sort, 1, Integer::sum);
        if (got != want && !broken) {
            broken = true;
            wrong++;
            System.out.println("due is " + want + " at the end of:");
            calls.forEach(System.out::println);
        }
    }

    private void feedByte(int n, int[] v) {
        due("feed", new int[] {n, v[0], v[1], v[2], v[3], v[4]},
            x.feed(n, v[0], v[1], v[2], v[3], v[4]), y.feed(n, v[0], v[1], v[2], v[3], v[4]));
    }

    private void hand(int work) {
        StringBuilder text = new StringBuilder();
        int size = draw(4) == 0 ? 1 + draw(50) : 25 + draw(26);
        while (text.length() < size) {
            if (!handed.isEmpty() && draw(3) > 0) {
                String old = handed.get(draw(handed.size()));
                int from = draw(old.length());
                text.append(old, from, Math.min(old.length(), from + 1 + draw(16)));
            } else {
                for (int i = draw(8); i >= 0; i--) {
                    text.append(signs.charAt(draw(signs.length())));
                }
            }
        }
        text.setLength(size);
        handed.add(text.toString());
        for (int i = 0; i < size; i += 5) {
            int[] v = new int[5];
            for (int t = 0; t < 5; t++) {
                v[t] = i + t < size ? text.charAt(i + t) : draw(256);
            }
            feedByte(Math.min(5, size - i), v);
        }
        int kind = around(0, 5);
        int day = draw(2) == 0 ? draw(3) : around(0, 99);
        due("work", new int[] {work, kind, day}, x.work(work, kind, day), y.work(work, kind, day));
    }

    private void oddFeed() {
        int[] v = new int[5];
        for (int t = 0; t < 5; t++) {
            v[t] = draw(30) == 0 ? around(0, 255) : "az09 \n\"`{/:A".charAt(draw(12));
        }
        feedByte(around(1, 5), v);
    }

    private void change() {
        int w = someWork();
        int o = someWork();
        int a = around(0, 30);
        int b = around(0, 30);
        int n = around(1, 12);
        switch (draw(16)) {
            case 0, 1 -> hand(w);
            case 2 -> due("splice", new int[] {w, a, o, b, n}, x.splice(w, a, o, b, n), y.splice(w, a, o, b, n));
            case 3 -> due("cut", new int[] {w, a, n}, x.cut(w, a, n), y.cut(w, a, n));
            case 4 -> dropNow(w);
            case 5 -> due("alter", new int[] {w, 0, n % 7}, x.alter(w, 0, n % 7), y.alter(w, 0, n % 7));
            case 6 -> due("alter", new int[] {w, a % 3, n % 3}, x.alter(w, a % 3, n % 3), y.alter(w, a % 3, n % 3));
            case 7 -> due("image", new int[] {}, x.image(), y.image());
            case 8 -> due("back", new int[] {}, x.back(), y.back());
            case 9 -> oddFeed();
            case 10 -> due("work", new int[] {w, n, 0}, x.work(w, n, 0), y.work(w, n, 0));
            default -> ruleNow();
        }
    }

    private void dropNow(int w) {
        if (draw(3) == 0) {
            due("drop", new int[] {w}, x.drop(w), y.drop(w));
        }
    }

    private void ruleNow() {
        int what = around(0, 5);
        int[][] bounds = {{2, 6}, {1, 6}, {2, 6}, {-1, 4}, {1, 10}, {0, 100}};
        int v = what >= 0 && what < 6 ? around(bounds[what][0], bounds[what][1]) : 3;
        v = what == 3 && draw(3) > 0 ? -1 : what == 4 && draw(8) == 0 ? 50 : what == 2 && draw(2) == 0 ? 6 : v;
        due("rule", new int[] {what, v}, x.rule(what, v), y.rule(what, v));
    }

    private void host() {
        int s = around(0, 3);
        int t = around(0, 3);
        int i = around(0, 8);
        int j = around(0, 8);
        int n = around(0, 8);
        int w = someWork();
        int size = draw(3) == 0 ? around(0, 40) : 2 * n;
        switch (draw(8)) {
            case 0 -> sheetNow(s, draw(8) == 0 ? around(-1, 1) : draw(2), size);
            case 1 -> due("put", new int[] {s, i, size}, x.put(s, i, size), y.put(s, i, size));
            case 2 -> due("put", new int[] {s, i, size + 256}, x.put(s, i, size + 256), y.put(s, i, size + 256));
            case 3, 4 -> due("copy", new int[] {s, i, t, j, n}, x.copy(s, i, t, j, n), y.copy(s, i, t, j, n));
            case 5 -> due("film", new int[] {s, w}, x.film(s, w), y.film(s, w));
            default -> tellsNow(s, w);
        }
    }

    private void sheetNow(int s, int sort, int size) {
        due("sheet", new int[] {s, sort, size}, x.sheet(s, sort, size), y.sheet(s, sort, size));
    }

    private void tellsNow(int s, int w) {
        if (draw(2) == 0) {
            due("film", new int[] {s, w}, x.film(s, w), y.film(s, w));
        }
        if (draw(3) == 0) {
            ruleNow();
        }
        if (draw(3) == 0) {
            int i = around(0, 5);
            int v = around(0, 49);
            due("put", new int[] {s, i, v}, x.put(s, i, v), y.put(s, i, v));
        }
        for (int what = 0; what < 3; what++) {
            due("tells", new int[] {s, w, what}, x.tells(s, w, what), y.tells(s, w, what));
        }
    }

    private void ask() {
        int w = someWork();
        int o = someWork();
        int i = around(-1, 20);
        int what = around(0, 2);
        int two = around(0, 1);
        int seed = draw(Integer.MAX_VALUE) * (draw(2) == 0 ? 1 : -1) + (draw(9) == 0 ? Integer.MAX_VALUE : 0);
        int n = around(0, 20);
        int m = around(1, 3);
        int share = around(0, 100);
        switch (draw(21)) {
            case 0 -> due("raw", new int[] {w, i}, x.raw(w, i), y.raw(w, i));
            case 1, 2 -> due("letter", new int[] {w, i, two}, x.letter(w, i, two), y.letter(w, i, two));
            case 3 -> due("taken", new int[] {w, n % 7}, x.taken(w, n % 7), y.taken(w, n % 7));
            case 4 -> due("mark", new int[] {w, i}, x.mark(w, i), y.mark(w, i));
            case 5 -> due("print", new int[] {w, i, what}, x.print(w, i, what), y.print(w, i, what));
            case 6 -> due("common", new int[] {w, two}, x.common(w, two), y.common(w, two));
            case 7, 8 -> matchNow(w, o, i % 9);
            case 9, 10 -> due("chain", new int[] {w, o, what}, x.chain(w, o, what), y.chain(w, o, what));
            case 11 -> due("like", new int[] {w, o, two}, x.like(w, o, two), y.like(w, o, two));
            case 12 -> due("span", new int[] {w, i % 6, what}, x.span(w, i % 6, what), y.span(w, i % 6, what));
            case 13 -> due("source", new int[] {w, i}, x.source(w, i), y.source(w, i));
            case 14 -> due("share", new int[] {w, what}, x.share(w, what), y.share(w, what));
            case 15 -> due("group", new int[] {w}, x.group(w), y.group(w));
            case 16 -> due("without", new int[] {w, o}, x.without(w, o), y.without(w, o));
            case 17 -> due("drawn", new int[] {w, seed, n, two}, x.drawn(w, seed, n, two), y.drawn(w, seed, n, two));
            case 18 -> due("chance", new int[] {w, seed, m, share, two}, x.chance(w, seed, m, share, two), y.chance(w, seed, m, share, two));
            case 19 -> due("count", new int[] {n % 7}, x.count(n % 7), y.count(n % 7));
            default -> due("common", new int[] {w, what}, x.common(w, what), y.common(w, what));
        }
    }

    private void matchNow(int w, int o, int k) {
        int what = around(0, 3);
        due("match", new int[] {w, o, -1, what}, x.match(w, o, -1, what), y.match(w, o, -1, what));
        due("match", new int[] {w, o, k, what}, x.match(w, o, k, what), y.match(w, o, k, what));
        int n = x.match(w, o, -1, 0);
        int far = n > 0 ? draw(n) : 0;
        due("match", new int[] {w, o, far, 3}, x.match(w, o, far, 3), y.match(w, o, far, 3));
    }

    private void run() {
        for (int w = 0; w < 5; w++) {
            if (draw(5) > 0) {
                hand(w);
            }
        }
        for (int s = 0; s < 4; s++) {
            int sort = draw(2);
            due("sheet", new int[] {s, sort, 12}, x.sheet(s, sort, 12), y.sheet(s, sort, 12));
        }
        ruleNow();
        ruleNow();
        Model.forget();
        while (calls.size() < 480 && !broken) {
            int turn = draw(10);
            if (turn < 3) {
                change();
            } else if (turn < 5) {
                host();
            } else {
                ask();
            }
        }
    }

    public static void main(String[] args) {
        int runs = args.length > 0 ? Integer.parseInt(args[0]) : 300;
        if (args.length > 1) {
            state = Long.parseLong(args[1]);
        }
        for (int k = 0; k < runs && wrong < 3; k++) {
            new AgainstModelTest().run();
        }
        SEEN.forEach((name, sorts) -> System.out.println(name + " " + sorts));
        System.out.println(wrong == 0 ? "all runs are as the model's" : wrong + " runs are not");
        if (wrong != 0) {
            System.exit(1);
        }
    }
}
