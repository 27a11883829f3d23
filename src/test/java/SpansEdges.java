import java.util.List;

/** The edges of what comes whence: the second terms from COVERED to DRAWN, promises 18 to 24. */
final class SpansEdges extends Asking {
    private static final String FIFTY = "abcdefghijklmnopqrstuvwxyzabcdefghijklmnopqrstuvwx";

    private SpansEdges() {
    }

    static List<Edge> terms() {
        String t = "terms 2";
        return List.of(
            new Edge(t, "COVERED is a LETTER of a WORK in some MATCH of it with another WORK.", SpansEdges::covered),
            new Edge(t, "Its SOURCE: of those MATCHES the longest", SpansEdges::sourceLongest),
            new Edge(t, "of several that with the WORK of the least DAY", SpansEdges::sourceLeastDay),
            new Edge(t, "of several with the least WORK.", SpansEdges::sourceLeastWork),
            new Edge(t, "SPANS: the longest runs of LETTERS one behind the other of one SOURCE.", SpansEdges::spanRuns),
            new Edge(t, "SHARE: how many are COVERED", SpansEdges::shareCovered),
            new Edge(t, "in a hundred of its LETTERS (cut; 0: it has none).", SpansEdges::shareCut),
            new Edge(t, "Two WORKS are BOUND, if of one of them LETTERS in MATCHES with the other are any",
                SpansEdges::boundAny),
            new Edge(t, "and LIMIT (0 .. 100; 50 at first) in a hundred of its LETTERS at least.", SpansEdges::boundLimit),
            new Edge(t, "GROUP of a WORK: all that are BOUND to it, on and on, and it.", SpansEdges::groupOnAndOn),
            new Edge(t, "DRAWN by a SEED, z being z * 1103515245 + 12345 (an int; SEED at first) anew for each number",
                SpansEdges::drawnNumbers),
            new Edge(t, "in thought", SpansEdges::drawnInThought),
            new Edge(t, "n times byte (z >>> 9) % size of the RAW text becomes (by the next) 97 and (z >>> 9) % 26",
                SpansEdges::drawnBytes),
            new Edge(t, "then SHARE.", SpansEdges::drawnShare),
            new Edge(t, "IN m seeds (1 .. 3), SEED and each 1 more (an int), by 3 bytes", SpansEdges::chanceSeeds),
            new Edge(t, "of these those whose SHARE in a hundred is at least a told one.", SpansEdges::chanceAtLeast),
            new Edge("in doubt", "BOUND: by 100 times LETTERS in MATCHES, not cut.", SpansEdges::boundNotCut));
    }

    static List<Edge> promises() {
        return List.of(
            new Edge("18", "SPANS: how many (k -1; a what that is none is refused, too)", SpansEdges::spanCount),
            new Edge("18", "of the k-th the RAW place of its first LETTER (what 0), of its last (1), its SOURCE (2).",
                SpansEdges::spanTold),
            new Edge("18", "BAD; -11; -12.", SpansEdges::spanRefused),
            new Edge("19", "SOURCE of LETTER i (NONE).", SpansEdges::sourceTold),
            new Edge("19", "BAD; -11; -12.", SpansEdges::sourceRefused),
            new Edge("20", "SHARE: how many (what 0), in a hundred (1)", SpansEdges::shareTold),
            new Edge("20", "the WORK that is SOURCE of most LETTERS, of several the least (2; NONE).", SpansEdges::shareMost),
            new Edge("20", "BAD; -11.", SpansEdges::shareRefused),
            new Edge("21", "GROUP (bits).", SpansEdges::groupBits),
            new Edge("21", "BAD; -11.", SpansEdges::groupRefused),
            new Edge("22", "SHARE (how many) of a WORK, were another one missing", SpansEdges::withoutMissing),
            new Edge("22", "(COMMON by those that are left)", SpansEdges::withoutCommon),
            new Edge("22", "in thought.", SpansEdges::withoutInThought),
            new Edge("22", "BAD (also the same); -11.", SpansEdges::withoutRefused),
            new Edge("23", "What is DRAWN: how many are COVERED (what 0), in a hundred (1).", SpansEdges::drawnTold),
            new Edge("23", "BAD: also n (0 .. 20); -11.", SpansEdges::drawnRefused),
            new Edge("24", "IN m seeds: part 0 above, 1 below the line, in lowest terms.", SpansEdges::chanceTerms),
            new Edge("24", "BAD: also the told share (0 .. 100); -11.", SpansEdges::chanceRefused));
    }

    private static void covered() {
        HandedWorks x = handed("abcdxabcd", "qqabcd", "zz");
        dueText("with another", sourcesOf(x, 0), "1111-1111");
        dueText("the other, too", sourcesOf(x, 1), "--0000");
        dueText("with none", sourcesOf(x, 2), "--");
        x.drop(1);
        dueText("not with itself", sourcesOf(x, 0), "---------");
        x.rule(4, 1);
        dueText("not by one letter", sourcesOf(x, 2), "--");
    }

    private static void sourceLongest() {
        // abcdef of 1, defghijk of 2: def are in both
        HandedWorks x = new HandedWorks();
        hand(x, 0, 0, 0, "abcdefghijkl");
        hand(x, 1, 0, 0, "abcdef");
        hand(x, 2, 0, 99, "defghijk");
        dueText("the longest, whatever its day", sourcesOf(x, 0), "11122222222-");
        hand(x, 3, 0, 99, "abcdefg");
        dueText("longer by one", sourcesOf(x, 0), "33322222222-");
        x.rule(4, 9);
        dueText("too short, all", sourcesOf(x, 0), "------------");
        x.rule(4, 8);
        dueText("too short, but one", sourcesOf(x, 0), "---22222222-");
    }

    private static void sourceLeastDay() {
        HandedWorks x = new HandedWorks();
        hand(x, 0, 0, 0, "abcde");
        hand(x, 1, 0, 7, "abcde");
        hand(x, 2, 0, 6, "abcde");
        hand(x, 3, 0, 8, "abcde");
        due("day 6", x.source(0, 0), 2);
        x.alter(3, 1, 5);
        due("day 5", x.source(0, 4), 3);
        x.alter(1, 1, 0);
        due("day 0", x.source(0, 4), 1);
        // its own day doesn't matter
        due("of 1", x.source(1, 0), 0);
        x.alter(0, 1, 99);
        due("of 1 then", x.source(1, 0), 3);
    }

    private static void sourceLeastWork() {
        HandedWorks x = handed("abcde", "abcde", "abcde", "abcde", "abcde");
        int[] due = {1, 0, 0, 0, 0};
        for (int w = 0; w < 5; w++) {
            due("of " + w, x.source(w, 2), due[w]);
        }
        x.drop(0);
        due("of 1", x.source(1, 2), 2);
        due("of 4", x.source(4, 2), 1);
    }

    private static void spanRuns() {
        HandedWorks x = handed("abcdefgh", "efghxabcd");
        dueText("two matches of one source", spansOf(x, 0), "0..7=1");
        x = handed("abcdxefgh", "efghyabcd");
        dueText("a letter of none parts them", spansOf(x, 0), "0..3=1 5..8=1");
        x = handed("abcd1 \nefgh", "efghyabcd");
        dueText("what is no letter doesn't", spansOf(x, 0), "0..10=1");
        x = handed("abcdefgh", "abcd", "efgh");
        dueText("another source does", spansOf(x, 0), "0..3=1 4..7=2");
        x = handed("abcdefghijkl", "abcdxijkl", "efgh");
        dueText("one source, another, the one", spansOf(x, 0), "0..3=1 4..7=2 8..11=1");
        dueText("at both ends", spansOf(x, 2), "0..3=0");
    }

    private static void shareCovered() {
        HandedWorks x = handed("abcdefg", "abcdxdefg");
        due("a letter in two matches is one", x.share(0, 0), 7);
        due("none of x", x.share(1, 0), 8);
        due("one letter less is too few", x.cut(0, 0, 4), 3);
        due("none", x.share(0, 0), 0);
    }

    private static void shareCut() {
        HandedWorks x = ruled(handed("abz", "ab", "12", "abzabzabz"), 2, 1, 6, -1, 2);
        x.drop(3);
        due("66.6", x.share(0, 1), 66);
        due("100", x.share(1, 1), 100);
        due("no letters", x.share(2, 1), 0);
        due("no letters, how many", x.share(2, 0), 0);
        hand(x, 3, 0, 0, "xyzxyzxyz");
        due("none", x.share(3, 1), 0);
        // 4 in 41
        hand(x, 3, 0, 0, "q".repeat(37) + "abcd");
        hand(x, 4, 0, 0, "abcd");
        x.rule(4, 4);
        due("9.7", x.share(3, 1), 9);
    }

    private static void boundAny() {
        HandedWorks x = handed("abcd", "abcdefghijklmnop", "zzzz");
        due("of the one, all; of the other, a quarter", x.group(0), 3);
        due("so of the other", x.group(1), 3);
        x.rule(5, 100);
        due("all of the one are enough", x.group(1), 3);
        x.rule(5, 0);
        due("none are not any", x.group(2), 4);
        x.rule(4, 5);
        due("too short to be a match", x.group(0), 1);
        hand(x, 0, 0, 0, "1");
        due("no letters", x.group(0), 1);
    }

    private static void boundLimit() {
        // efgh are 4 of 8 and 4 of 10
        HandedWorks x = handed("abcdefgh", "efghuvwxyz");
        due("50 at first: just so many", x.group(0), 3);
        due("50 at first", x.rule(5, 51), 50);
        due("one more", x.group(0), 1);
        due("100 is one", x.rule(5, 100), 51);
        due("100", x.group(0), 1);
        due("0 is one", x.rule(5, 0), 100);
        due("0", x.group(1), 3);
        due("below 0 is none", x.rule(5, -1), -2);
        due("101 is none", x.rule(5, 101), -2);
        // 4 of 9, of 10
        hand(x, 0, 0, 0, "abcdefghi");
        x.rule(5, 44);
        due("44.4", x.group(0), 3);
        x.rule(5, 45);
        due("less than 45", x.group(0), 1);
    }

    private static void boundNotCut() {
        // 2 of 3 are 66.6 in a hundred; 67 in a hundred of 3 are 2.01
        HandedWorks x = ruled(handed("abz", "abcdefghijk"), 2, 1, 6, -1, 2, 67);
        due("200 are less than 201", x.group(0), 1);
        x.rule(5, 66);
        due("200 are more than 198", x.group(0), 3);
        // a letter in two matches is one: of abcdefg seven, not eight
        x = handed("abcdefgzzzzzzzz", "abcdydefgyyyyyyyyyy");
        due("7 of 15, 8 of 19", x.group(0), 1);
        x.rule(5, 46);
        due("46.6", x.group(0), 3);
    }

    private static void groupOnAndOn() {
        // 0 by abcd to 4, 4 by efgh to 1, 1 by ijkl to 3, 3 by mnop to 2
        HandedWorks x = handed("abcd", "efghijkl", "mnop", "ijklmnop", "abcdefgh");
        for (int w = 0; w < 5; w++) {
            due("all of them, of " + w, x.group(w), 31);
        }
        x.drop(1);
        due("0 and 4", x.group(0), 17);
        due("4 and 0", x.group(4), 17);
        due("2 and 3", x.group(3), 12);
        x.drop(4);
        due("it alone", x.group(0), 1);
    }

    /** What n draws make of a text, by long numbers. */
    private static String drawn(String text, int seed, int n) {
        StringBuilder b = new StringBuilder(text);
        long z = seed & 0xFFFFFFFFL;
        for (int i = 0; i < n; i++) {
            z = (z * 1103515245L + 12345L) & 0xFFFFFFFFL;
            int at = (int) (z / 512 % text.length());
            z = (z * 1103515245L + 12345L) & 0xFFFFFFFFL;
            b.setCharAt(at, (char) (97 + z / 512 % 26));
        }
        return b.toString();
    }

    private static void drawnBecomes(String text, int seed, int n) {
        String then = drawn(text, seed, n);
        HandedWorks x = ruled(handed(text, then), 2, 1, 6, -1, Math.max(1, then.replaceAll("[^a-z]", "").length()));
        int letters = x.letter(1, -1, 0);
        due("of " + text + " by " + seed + " " + n + " times " + then, x.drawn(0, seed, n, 0), letters > 1 ? letters : 0);
    }

    private static void drawnNumbers() {
        // z of 1 is 1103527590, then 2524885223; by 512: 2155327, 4931416: byte 7 of 10 becomes 97 + 22, w
        dueText("by hand", drawn("abcdefghij", 1, 1), "abcdefgwij");
        // z of -1 is 3191464396 (below 0 as an int), then 288979989; by 512: 6233328, 564414: byte 8 becomes 97 + 6, g
        dueText("by hand, below 0", drawn("abcdefghij", -1, 1), "abcdefghgj");
        // z of 0 is 12345, then 3554416254; by 512: 24, 6942219: byte 4 becomes 97 + 11, l
        dueText("by hand, of 0", drawn("abcdefghij", 0, 1), "abcdlfghij");
        for (int seed : new int[] {0, 1, -1, 2, LEAST_INT, MOST_INT, LEAST_INT + 1, MOST_INT - 1, 12345, -987654321}) {
            drawnBecomes("abcdefghij", seed, 1);
            drawnBecomes("abcdefghij", seed, 2);
            drawnBecomes("abcdefghij", seed, 20);
        }
    }

    private static void drawnBytes() {
        for (int n = 0; n <= 20; n++) {
            drawnBecomes("ab", 77, n);
            drawnBecomes(FIFTY, 77, n);
            drawnBecomes("a1 \n\"b2", 77, n);
        }
        drawnBecomes("a", 5, 1);
        drawnBecomes("1234567", -5, 20);
    }

    private static void drawnInThought() {
        HandedWorks x = handed("abcdefghij", "abcdefghij");
        due("drawn", x.drawn(0, 1, 1, 0), 7);
        dueText("raw", rawOf(x, 0), "abcdefghij");
        due("share", x.share(0, 0), 10);
        due("drawn again", x.drawn(0, 1, 1, 0), 7);
        due("of the other", x.drawn(1, 1, 1, 0), 7);
        x.image();
        x.drawn(0, 3, 20, 0);
        x.back();
        dueText("the image", rawOf(x, 0), "abcdefghij");
    }

    private static void drawnShare() {
        // abcdefg w ij: seven are left, as two are too few
        HandedWorks x = handed("abcdefghij", "abcdefghij");
        due("how many", x.drawn(0, 1, 1, 0), 7);
        due("in a hundred", x.drawn(0, 1, 1, 1), 70);
        x.rule(4, 2);
        due("two are enough, but no print is in them", x.drawn(0, 1, 1, 0), 7);
        ruled(x, 2, 1);
        due("nine", x.drawn(0, 1, 1, 0), 9);
        // the draw may bring a letter where none was
        hand(x, 0, 0, 0, "abcdefg1ij");
        hand(x, 1, 0, 0, "abcdefgwij");
        ruled(x, 3, 2, 6, -1, 10);
        due("a digit becomes w", x.drawn(0, 1, 1, 1), 100);
    }

    private static void chanceSeeds() {
        HandedWorks x = handed(FIFTY.substring(0, 20), FIFTY.substring(0, 20));
        int[] seeds = {40, -2, MOST_INT, MOST_INT - 1, LEAST_INT, -1};
        for (int seed : seeds) {
            int[] shares = new int[3];
            for (int i = 0; i < 3; i++) {
                String then = drawn(FIFTY.substring(0, 20), seed + i, 3);
                HandedWorks y = handed(then, FIFTY.substring(0, 20));
                shares[i] = y.share(0, 1);
            }
            for (int m = 1; m <= 3; m++) {
                for (int told = 0; told <= 100; told += 10) {
                    int n = 0;
                    for (int i = 0; i < m; i++) {
                        n += shares[i] >= told ? 1 : 0;
                    }
                    due("in " + m + " of " + seed + ", above", x.chance(0, seed, m, told, 0), n == m ? 1 : n);
                }
            }
        }
        due("in none", x.chance(0, 1, 0, 50, 0), -2);
        due("in four", x.chance(0, 1, 4, 50, 0), -2);
    }

    private static void chanceAtLeast() {
        HandedWorks x = handed("abcdefghij", "abcdefghij");
        int share = x.drawn(0, 9, 3, 1);
        due("just so many", x.chance(0, 9, 1, share, 0), 1);
        due("one more", x.chance(0, 9, 1, share + 1, 0), 0);
        due("0 is reached by all", x.chance(0, 9, 3, 0, 0), 1);
        hand(x, 0, 0, 0, "zzzzzzzzzz");
        due("0 is reached by none covered", x.chance(0, 9, 3, 0, 0), 1);
        due("1 is not", x.chance(0, 9, 3, 1, 0), 0);
    }

    private static void spanCount() {
        HandedWorks x = handed("abcdxefgh", "efghyabcd", "z");
        for (int what = 0; what < 3; what++) {
            due("how many " + what, x.span(0, -1, what), 2);
            due("none " + what, x.span(2, -1, what), 0);
        }
        for (int what : new int[] {-1, 3, LEAST_INT, MOST_INT}) {
            due("what " + what, x.span(0, -1, what), -2);
        }
    }

    private static void spanTold() {
        HandedWorks x = handed("1 abcd2x\nef gh", "efgh", "zabcd");
        int[][] due = {{2, 5, 2}, {9, 13, 1}};
        for (int k = 0; k < 2; k++) {
            for (int what = 0; what < 3; what++) {
                due("span " + k + " what " + what, x.span(0, k, what), due[k][what]);
            }
        }
        due("of work 0", x.span(2, 0, 2), 0);
    }

    private static void spanRefused() {
        HandedWorks x = handed("abcd", "abcd", "z");
        for (int k : new int[] {1, -2, LEAST_INT, MOST_INT}) {
            for (int what = 0; what < 3; what++) {
                due("span " + k, x.span(0, k, what), -12);
            }
            due("bad before outside", x.span(0, k, 3), -2);
            due("missing before outside", x.span(3, k, 0), -11);
        }
        due("of none", x.span(2, 0, 2), -12);
        due("bad work", x.span(5, -1, 0), -2);
        due("bad before missing", x.span(3, -1, 3), -2);
        due("missing", x.span(3, -1, 0), -11);
    }

    private static void sourceTold() {
        HandedWorks x = handed("xabcdy", "abcd");
        int[] due = {-1, 1, 1, 1, 1, -1};
        for (int i = 0; i < 6; i++) {
            due("source " + i, x.source(0, i), due[i]);
        }
        due("a work of number 0", x.source(1, 3), 0);
    }

    private static void sourceRefused() {
        HandedWorks x = handed("a1b2cd", "12");
        for (int i : new int[] {4, 5, -1, -2, LEAST_INT, MOST_INT}) {
            due("letter " + i, x.source(0, i), -12);
            due("missing before outside " + i, x.source(2, i), -11);
            due("bad before outside " + i, x.source(5, i), -2);
        }
        due("the last", x.source(0, 3), -1);
        due("of no letters", x.source(1, 0), -12);
    }

    private static void shareTold() {
        HandedWorks x = handed("abcdxyz", "abcd");
        due("how many", x.share(0, 0), 4);
        due("in a hundred", x.share(0, 1), 57);
        due("all", x.share(1, 0), 4);
        due("all in a hundred", x.share(1, 1), 100);
        x.rule(4, 5);
        due("none", x.share(0, 0), 0);
        due("none in a hundred", x.share(0, 1), 0);
    }

    private static void shareMost() {
        HandedWorks x = handed("abcdxefghi", "qabcd", "efghi");
        due("five are more than four", x.share(0, 2), 2);
        x.cut(2, 4, 1);
        due("of like ones the least", x.share(0, 2), 1);
        due("work 0", x.share(1, 2), 0);
        x.rule(4, 5);
        due("none", x.share(0, 2), -1);
    }

    private static void shareRefused() {
        HandedWorks x = handed("abcd");
        for (int what : new int[] {-1, 3, LEAST_INT, MOST_INT}) {
            due("what " + what, x.share(0, what), -2);
            due("bad before missing " + what, x.share(1, what), -2);
        }
        due("bad work", x.share(-1, 0), -2);
        for (int what = 0; what < 3; what++) {
            due("missing " + what, x.share(4, what), -11);
        }
    }

    private static void groupBits() {
        HandedWorks x = handed("abcd", "zzzz", "yyyy", "abcd", "xxxx");
        int[] due = {9, 2, 4, 9, 16};
        for (int w = 0; w < 5; w++) {
            due("group of " + w, x.group(w), due[w]);
        }
    }

    private static void groupRefused() {
        HandedWorks x = handed("abcd");
        for (int w : new int[] {-1, 5, 31, 32, LEAST_INT, MOST_INT}) {
            due("work " + w, x.group(w), -2);
        }
        due("missing", x.group(4), -11);
    }

    private static void withoutMissing() {
        HandedWorks x = handed("abcdefghij", "abcdef", "efghij", "zzzz");
        due("with all", x.share(0, 0), 10);
        due("without 1", x.without(0, 1), 6);
        due("without 2", x.without(0, 2), 6);
        due("without 3", x.without(0, 3), 10);
        due("of 1 without 0", x.without(1, 0), 0);
        due("of 1 without 2", x.without(1, 2), 6);
    }

    private static void withoutCommon() {
        HandedWorks x = handed("abcd", "abcd", "abcd");
        x.rule(2, 3);
        due("common by three", x.share(0, 0), 0);
        due("not by two", x.without(0, 1), 4);
        x.rule(2, 6);
        x.rule(3, 2);
        due("common by the base", x.share(0, 0), 0);
        due("not by a missing base", x.without(0, 2), 4);
        due("still by the base", x.without(0, 1), 0);
    }

    private static void withoutInThought() {
        HandedWorks x = handed("abcd", "abcd");
        due("without", x.without(0, 1), 0);
        due("works", x.count(0), 2);
        dueText("it is there", rawOf(x, 1), "abcd");
        due("share", x.share(0, 0), 4);
    }

    private static void withoutRefused() {
        HandedWorks x = handed("abcd", "abcd");
        due("the same", x.without(0, 0), -2);
        due("the same, missing", x.without(3, 3), -2);
        due("bad one", x.without(5, 0), -2);
        due("bad other", x.without(0, -1), -2);
        due("bad before missing", x.without(3, 5), -2);
        due("the one is missing", x.without(2, 0), -11);
        due("the other is missing", x.without(0, 2), -11);
    }

    private static void drawnTold() {
        HandedWorks x = handed("abcdefghijkl", "abcdefghijkl");
        due("by none, how many", x.drawn(0, 1, 0, 0), 12);
        due("by none, in a hundred", x.drawn(0, 1, 0, 1), 100);
        // 2155327 % 12 is 7: abcdefg w ijkl
        due("by one, how many", x.drawn(0, 1, 1, 0), 11);
        due("by one, in a hundred, cut", x.drawn(0, 1, 1, 1), 91);
        hand(x, 2, 0, 0, "1");
        due("no letters", x.drawn(2, 1, 0, 1), 0);
    }

    private static void drawnRefused() {
        HandedWorks x = handed("abcd", "abcd");
        due("n 0", x.drawn(0, 1, 0, 0), 4);
        due("n 20", x.drawn(0, 1, 20, 0) < 0 ? 1 : 0, 0);
        for (int n : new int[] {-1, 21, LEAST_INT, MOST_INT}) {
            due("n " + n, x.drawn(0, 1, n, 0), -2);
            due("bad before missing " + n, x.drawn(2, 1, n, 0), -2);
        }
        for (int what : new int[] {-1, 2, LEAST_INT, MOST_INT}) {
            due("what " + what, x.drawn(0, 1, 1, what), -2);
        }
        due("bad work", x.drawn(5, 1, 1, 0), -2);
        due("missing", x.drawn(2, 1, 1, 0), -11);
        due("any seed", x.drawn(0, LEAST_INT, 0, 1), 100);
    }

    private static void chanceTerms() {
        HandedWorks x = handed("abcdefghij", "abcdefghij");
        int[] n = new int[4];
        for (int seed = 0; seed < 40; seed++) {
            for (int m = 1; m <= 3; m++) {
                int above = 0;
                for (int i = 0; i < m; i++) {
                    above += handed(drawn("abcdefghij", seed + i, 3), "abcdefghij").share(0, 0) > 0 ? 1 : 0;
                }
                n[m] |= 1 << above;
                due("above " + m, x.chance(0, seed, m, 1, 0), above == m ? 1 : above);
                due("below " + m, x.chance(0, seed, m, 1, 1), above == 0 || above == m ? 1 : m);
            }
        }
        due("0 and 1 of 1 were seen", n[1], 3);
        due("0 to 2 of 2 were seen", n[2], 7);
        due("0 to 3 of 3 were seen", n[3], 15);
    }

    private static void chanceRefused() {
        HandedWorks x = handed("abcd", "abcd");
        due("share 0", x.chance(0, 1, 1, 0, 1), 1);
        due("share 100", x.chance(0, 1, 1, 100, 1), 1);
        for (int share : new int[] {-1, 101, LEAST_INT, MOST_INT}) {
            due("share " + share, x.chance(0, 1, 1, share, 0), -2);
            due("bad before missing " + share, x.chance(2, 1, 1, share, 0), -2);
        }
        for (int m : new int[] {0, 4, -1, LEAST_INT, MOST_INT}) {
            due("m " + m, x.chance(0, 1, m, 50, 0), -2);
        }
        for (int part : new int[] {-1, 2, LEAST_INT, MOST_INT}) {
            due("part " + part, x.chance(0, 1, 1, 50, part), -2);
        }
        due("bad work", x.chance(5, 1, 1, 50, 0), -2);
        due("missing", x.chance(2, 1, 1, 50, 0), -11);
    }
}
