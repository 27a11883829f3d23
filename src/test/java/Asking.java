/** What the tests by hand ask with: calls in plain rows, and what is due. */
abstract class Asking {
    static final int LEAST_INT = Integer.MIN_VALUE;
    static final int MOST_INT = Integer.MAX_VALUE;
    static final long NO = -4611686018427387904L;

    static int wrong = 0;
    static int asked = 0;
    static boolean quiet = false;

    static void due(String told, long got, long want) {
        asked++;
        if (got != want) {
            fault(told + " answered " + got + ", due is " + want);
        }
    }

    static void dueText(String told, String got, String want) {
        asked++;
        if (!got.equals(want)) {
            fault(told + " answered <" + got + ">, due is <" + want + ">");
        }
    }

    static void fault(String told) {
        wrong++;
        if (!quiet) {
            System.out.println(told);
        }
    }

    static void tape(HandedWorks x, String text) {
        for (int i = 0; i < text.length(); i += 5) {
            int[] v = new int[5];
            int n = Math.min(5, text.length() - i);
            for (int t = 0; t < n; t++) {
                v[t] = text.charAt(i + t);
            }
            x.feed(n, v[0], v[1], v[2], v[3], v[4]);
        }
    }

    static void hand(HandedWorks x, int work, int kind, int day, String text) {
        tape(x, text);
        due("hand " + text, x.work(work, kind, day), text.length());
    }

    /** Works 0, 1, .. are handed: PLAIN, of day 0. */
    static HandedWorks handed(String... texts) {
        HandedWorks x = new HandedWorks();
        for (int w = 0; w < texts.length; w++) {
            hand(x, w, 0, 0, texts[w]);
        }
        return x;
    }

    /** Rules 0, 1, .. become what is told. */
    static HandedWorks ruled(HandedWorks x, int... rules) {
        for (int what = 0; what < rules.length; what++) {
            x.rule(what, rules[what]);
        }
        return x;
    }

    static void putAll(HandedWorks x, int sheet, int sort, int... row) {
        x.sheet(sheet, sort, row.length);
        for (int i = 0; i < row.length; i++) {
            x.put(sheet, i, row[i]);
        }
    }

    static String rawOf(HandedWorks x, int work) {
        StringBuilder b = new StringBuilder();
        for (int i = 0, n = x.raw(work, -1); i < n; i++) {
            b.append((char) x.raw(work, i));
        }
        return b.toString();
    }

    static String lettersOf(HandedWorks x, int work) {
        StringBuilder b = new StringBuilder();
        for (int i = 0, n = x.letter(work, -1, 0); i < n; i++) {
            b.append((char) x.letter(work, i, 0));
        }
        return b.toString();
    }

    static String placesOf(HandedWorks x, int work) {
        StringBuilder b = new StringBuilder();
        for (int i = 0, n = x.letter(work, -1, 1); i < n; i++) {
            b.append(x.letter(work, i, 1)).append(' ');
        }
        return b.toString().trim();
    }

    static String printsOf(HandedWorks x, int work) {
        StringBuilder b = new StringBuilder();
        for (int k = 0, n = x.print(work, -1, 0); k < n; k++) {
            b.append(x.print(work, k, 0)).append(' ');
        }
        return b.toString().trim();
    }

    /** Of each match begin-begin x letters, and * if it is in the chain. */
    static String matchesOf(HandedWorks x, int a, int b) {
        StringBuilder t = new StringBuilder();
        for (int k = 0, n = x.match(a, b, -1, 0); k < n; k++) {
            t.append(x.match(a, b, k, 0)).append('-').append(x.match(a, b, k, 1)).append('x')
                .append(x.match(a, b, k, 2)).append(x.match(a, b, k, 3) == 1 ? "* " : " ");
        }
        return t.toString().trim();
    }

    /** Of each span first..last=source. */
    static String spansOf(HandedWorks x, int work) {
        StringBuilder t = new StringBuilder();
        for (int k = 0, n = x.span(work, -1, 0); k < n; k++) {
            t.append(x.span(work, k, 0)).append("..").append(x.span(work, k, 1)).append('=')
                .append(x.span(work, k, 2)).append(' ');
        }
        return t.toString().trim();
    }

    static String sourcesOf(HandedWorks x, int work) {
        StringBuilder t = new StringBuilder();
        for (int i = 0, n = x.letter(work, -1, 0); i < n; i++) {
            int source = x.source(work, i);
            t.append(source == -1 ? "-" : Integer.toString(source));
        }
        return t.toString();
    }
}
