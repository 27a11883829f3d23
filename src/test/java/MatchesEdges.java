import java.util.List;

/** The edges of grams, prints, matches: the second terms down to MOVED, LIKENESS, promises 11 to 17. */
final class MatchesEdges extends Asking {
    private static final String FIFTY = "abcdefghijklmnopqrstuvwxyzabcdefghijklmnopqrstuvwx";

    private MatchesEdges() {
    }

    static List<Edge> terms() {
        String t = "terms 2";
        return List.of(
            new Edge(t, "GRAMS of a WORK: each K of its LETTERS one behind the other", MatchesEdges::grams),
            new Edge(t, "(K 2 .. 6; 3 at first)", MatchesEdges::gramSizes),
            new Edge(t, "numbered from 0 by where they begin.", MatchesEdges::gramNumbers),
            new Edge(t, "MARK of a GRAM, m being 0 at first: for each letter by turn m is 31 m and the letter (bytes as "
                + "numbers)", MatchesEdges::marks),
            new Edge(t, "an int, wrapping.", MatchesEdges::markWraps),
            new Edge(t, "WINDOWS: each N (1 .. 6; 2 at first) GRAMS one behind the other", MatchesEdges::windows),
            new Edge(t, "(all of them, if they are fewer)", MatchesEdges::windowOfFewer),
            new Edge(t, "Each picks the GRAM of the least MARK", MatchesEdges::leastMark),
            new Edge(t, "of several the last.", MatchesEdges::lastOfSeveral),
            new Edge(t, "PRINTS: those that some WINDOW picks, by number.", MatchesEdges::printsOnce),
            new Edge(t, "COMMON is a GRAM, if it (its letters) is in so many WORKS", MatchesEdges::commonByLetters),
            new Edge(t, "as MANY (2 .. 6; 6 at first) tells, or more", MatchesEdges::commonMany),
            new Edge(t, "or in the WORK told as BASE (NONE at first; it may be missing).", MatchesEdges::commonBase),
            new Edge(t, "MATCHES of WORKS a and b: for each PRINT of a and each of b with the same letters",
                MatchesEdges::matchPrints),
            new Edge(t, "that aren't COMMON", MatchesEdges::matchCommon),
            new Edge(t, "the longest run of like LETTERS of both with these in it", MatchesEdges::matchLongest),
            new Edge(t, "each run once", MatchesEdges::matchOnce),
            new Edge(t, "those of LEAST (1 .. 50; 4 at first) LETTERS at least", MatchesEdges::matchLeast),
            new Edge(t, "by where they begin in a, then in b.", MatchesEdges::matchOrder),
            new Edge(t, "CHAIN: of rows of MATCHES, each beginning in a and in b no earlier than the one ahead ends there",
                MatchesEdges::chainNoEarlier),
            new Edge(t, "the one of most LETTERS", MatchesEdges::chainMost),
            new Edge(t, "of several that whose first is the earliest", MatchesEdges::chainFirst),
            new Edge(t, "then its second, and so on.", MatchesEdges::chainSecond),
            new Edge(t, "MOVED: MATCHES that aren't in it.", MatchesEdges::moved),
            new Edge(t, "LIKENESS of a and b: how many unlike GRAMS (by letters)", MatchesEdges::likeUnlikeGrams),
            new Edge(t, "are PRINTS of both and not COMMON", MatchesEdges::likePrints),
            new Edge(t, "by how many are of one of them at least.", MatchesEdges::likeBelow),
            new Edge("in doubt", "LIKENESS: neither number has GRAMS that are COMMON.", MatchesEdges::likeCommon));
    }

    static List<Edge> promises() {
        return List.of(
            new Edge("11", "K (what 0), N (1), MANY (2), BASE (3), LEAST (4), LIMIT (5) becomes v: what it was.",
                MatchesEdges::ruleBecomes),
            new Edge("11", "BAD.", MatchesEdges::ruleBad),
            new Edge("12", "MARK of GRAM i.", MatchesEdges::markOf),
            new Edge("12", "NO: a number, the WORK is missing, no such GRAM.", MatchesEdges::markNo),
            new Edge("13", "PRINTS: how many (k -1; a what that is none is refused, too)", MatchesEdges::printCount),
            new Edge("13", "of the k-th its GRAM (what 0), in how many WORKS that is (1), whether it is COMMON (2; 1, 0).",
                MatchesEdges::printTold),
            new Edge("13", "BAD; -11; -12.", MatchesEdges::printRefused),
            new Edge("14", "How many GRAMS of a WORK are COMMON (what 0), how many of these are PRINTS (1).",
                MatchesEdges::commonTold),
            new Edge("14", "BAD; -11.", MatchesEdges::commonRefused),
            new Edge("15", "MATCHES of two WORKS: how many (k -1; a what that is none is refused, too)",
                MatchesEdges::matchCount),
            new Edge("15", "of the k-th where it begins in the one (what 0), in the other (1), how many LETTERS (2), whether "
                + "it is in the CHAIN (3; 1, 0).", MatchesEdges::matchTold),
            new Edge("15", "BAD (also the same); -11 (either); -12.", MatchesEdges::matchRefused),
            new Edge("16", "CHAIN: LETTERS (what 0), MATCHES (1), LETTERS of MOVED ones together (2).",
                MatchesEdges::chainTold),
            new Edge("16", "BAD (also the same); -11.", MatchesEdges::chainRefused),
            new Edge("17", "LIKENESS in lowest terms: above the line (part 0), below it (1)", MatchesEdges::likeTerms),
            new Edge("17", "0 by 1, if neither has any.", MatchesEdges::likeNone),
            new Edge("17", "BAD (also the same); -11.", MatchesEdges::likeRefused));
    }

    private static HandedWorks code(String text) {
        HandedWorks x = new HandedWorks();
        hand(x, 0, 2, 0, text);
        return x;
    }

    private static void dueMarks(HandedWorks x, int work, long... marks) {
        for (int i = 0; i < marks.length; i++) {
            due("mark " + i + " of " + work, x.mark(work, i), marks[i]);
        }
        due("no mark behind", x.mark(work, marks.length), NO);
    }

    private static void grams() {
        HandedWorks x = handed("abc", "a1b\n\"c", "ab", "1 2", "abcde");
        // (97 * 31 + 98) * 31 + 99, (98 * 31 + 99) * 31 + 100, (99 * 31 + 100) * 31 + 101
        dueMarks(x, 0, 96354);
        dueMarks(x, 1, 96354);
        dueMarks(x, 2);
        dueMarks(x, 3);
        dueMarks(x, 4, 96354, 97347, 98340);
    }

    private static void gramSizes() {
        HandedWorks x = handed("abcdef", "abcde");
        due("three at first", x.rule(0, 2), 3);
        // 31 a + b: 3105, 3137, 3169, 3201, 3233
        dueMarks(x, 0, 3105, 3137, 3169, 3201, 3233);
        due("six", x.rule(0, 6), 2);
        due("one gram of six", x.mark(0, 0) == NO ? 0 : 1, 1);
        due("no other", x.mark(0, 1), NO);
        dueMarks(x, 1);
        due("one", x.rule(0, 1), -2);
        due("seven", x.rule(0, 7), -2);
        x.rule(0, 5);
        due("one gram of five", x.mark(1, 0) == NO ? 0 : 1, 1);
        due("no other of five", x.mark(1, 1), NO);
    }

    private static void gramNumbers() {
        HandedWorks x = ruled(handed("1b a\nc"), 2);
        // ba, ac
        dueMarks(x, 0, 98 * 31 + 97, 97 * 31 + 99);
        due("ahead of 0", x.mark(0, -1), NO);
    }

    private static void marks() {
        due("letters", handed("zza").mark(0, 0), (122 * 31 + 122) * 31 + 97);
        due("a digit as #", code("1ab").mark(0, 0), (35 * 31 + 97) * 31 + 98);
        HandedWorks x = code("a bc");
        x.alter(0, 0, 3);
        due("a letter as v", x.mark(0, 0), (118 * 31 + 98) * 31 + 99);
        hand(x, 0, 4, 0, "\nab");
        due("a line end as /", x.mark(0, 0), (47 * 31 + 97) * 31 + 98);
    }

    private static void markWraps() {
        // 31^5 + .. + 1 is 29583456; 97 times it 2869595232, 122 times it 3609181632: less by 4294967296
        HandedWorks x = ruled(handed("aaaaaa", "zzzzzz"), 6);
        due("a's", x.mark(0, 0), -1425372064);
        due("z's", x.mark(1, 0), -685785664);
        x.rule(0, 5);
        // 954305 times 122
        due("no wrap", x.mark(1, 0), 116425210);
    }

    private static void windows() {
        // dc cb ba: each less than the one ahead
        HandedWorks x = ruled(handed("dcba"), 2);
        dueText("by 2", printsOf(x, 0), "1 2");
        due("two at first", x.rule(1, 1), 2);
        dueText("by 1", printsOf(x, 0), "0 1 2");
        x.rule(1, 3);
        dueText("by 3, just all", printsOf(x, 0), "2");
        due("none", x.rule(1, 0), -2);
        due("seven", x.rule(1, 7), -2);
        hand(x, 0, 0, 0, "hgfedcba");
        x.rule(1, 6);
        dueText("by 6", printsOf(x, 0), "5 6");
        // zz stood behind the end
        x.rule(1, 2);
        hand(x, 0, 0, 0, "zzzzzzzz");
        dueText("all alike", printsOf(x, 0), "1 2 3 4 5 6");
        hand(x, 0, 0, 0, "abc");
        dueText("no window goes over the end", printsOf(x, 0), "0");
    }

    private static void windowOfFewer() {
        HandedWorks x = ruled(handed("bacd", "abc", "dcb", "a"), 2, 6);
        dueText("ba ac cd", printsOf(x, 0), "1");
        dueText("ab bc", printsOf(x, 1), "0");
        dueText("dc cb", printsOf(x, 2), "1");
        dueText("no gram", printsOf(x, 3), "");
        ruled(x, 3, 2);
        dueText("one gram by two", printsOf(x, 1), "0");
    }

    private static void leastMark() {
        // ab bc ca ab bd
        HandedWorks x = ruled(handed("abcabd"), 2);
        dueText("ab twice", printsOf(x, 0), "0 1 3");
        // #aaaaa is above 0, aaaaaa below it by its wrap: less
        x = ruled(code("1aaaaaa"), 6);
        due("#aaaaa", x.mark(0, 0), 1094587870);
        due("aaaaaa", x.mark(0, 1), -1425372064);
        dueText("below 0 is less", printsOf(x, 0), "1");
    }

    private static void lastOfSeveral() {
        HandedWorks x = ruled(handed("aaa", "aaaa", "abcab"), 2);
        dueText("of two", printsOf(x, 0), "1");
        dueText("of two, by turn", printsOf(x, 1), "1 2");
        x.rule(1, 3);
        dueText("of three", printsOf(x, 1), "2");
        x.rule(1, 6);
        dueText("apart", printsOf(x, 2), "3");
    }

    private static void printsOnce() {
        // ba ac cd: ac is picked by both windows
        HandedWorks x = ruled(handed("bacd"), 2);
        due("once", x.print(0, -1, 0), 1);
        due("which", x.print(0, 0, 0), 1);
        hand(x, 0, 0, 0, "cabac");
        // ca ab ba ac: 1, 1, 3
        dueText("by number", printsOf(x, 0), "1 3");
    }

    private static void commonByLetters() {
        HandedWorks x = handed("abc", "abcxabc", "qa1bc", "qrsqrs");
        x.rule(2, 3);
        due("in three works", x.print(0, 0, 1), 3);
        due("common by three", x.common(0, 0), 1);
        x.rule(2, 4);
        due("twice in one is once", x.common(0, 0), 0);
        x.rule(2, 2);
        due("twice in one alone", x.common(3, 0), 0);
        // a letter that is told as v is a v
        hand(x, 4, 3, 0, "a bc");
        hand(x, 3, 0, 0, "vbc");
        due("as told", x.common(4, 0), 1);
        x = likeMarks();
        x.rule(2, 2);
        due("of like marks, but unlike letters", x.common(0, 0), 0);
        due("in one work each", x.print(0, 0, 1), 1);
    }

    /** x# and va have the same mark: 31 * 120 + 35 is 31 * 118 + 97. */
    private static HandedWorks likeMarks() {
        HandedWorks x = ruled(handed("x1", "va"), 2, 1, 6, -1, 1);
        x.alter(0, 0, 2);
        dueMarks(x, 0, 3755);
        dueMarks(x, 1, 3755);
        return x;
    }

    private static void commonMany() {
        HandedWorks x = handed("abc", "abc", "abc", "abc", "abc");
        due("six at first: five are too few", x.common(0, 0), 0);
        due("six at first", x.rule(2, 5), 6);
        due("just five", x.common(0, 0), 1);
        x.rule(2, 2);
        due("more than two", x.common(0, 0), 1);
        x.drop(1);
        x.drop(2);
        x.drop(3);
        due("just two", x.common(0, 0), 1);
        x.rule(2, 3);
        due("one too few", x.common(0, 0), 0);
        due("one is none", x.rule(2, 1), -2);
        due("seven is none", x.rule(2, 7), -2);
    }

    private static void commonBase() {
        HandedWorks x = handed("abcd", "bcd");
        due("none at first", x.rule(3, 1), -1);
        due("in the base", x.common(0, 0), 1);
        due("the base itself", x.common(1, 0), 1);
        x.rule(3, 4);
        due("a missing one", x.common(0, 0), 0);
        hand(x, 4, 0, 0, "abcde");
        due("there then", x.common(0, 0), 2);
        x.drop(4);
        due("missing again", x.common(0, 0), 0);
        due("none again", x.rule(3, -1), 4);
        due("work 0", x.rule(3, 0), -1);
        due("all of work 0", x.common(0, 0), 2);
        due("by none", x.rule(3, 5), -2);
        due("below none", x.rule(3, -2), -2);
    }

    private static void matchPrints() {
        // bcd is a print of the one; of the other abc alone is
        HandedWorks x = handed("bcd", "abcd");
        x.rule(4, 3);
        dueText("not a print of the other", matchesOf(x, 0, 1), "");
        dueText("not a print of the one", matchesOf(x, 1, 0), "");
        x.rule(1, 1);
        dueText("a print of both", matchesOf(x, 0, 1), "0-1x3*");
        x.rule(0, 4);
        dueText("no gram", matchesOf(x, 0, 1), "");
        dueText("prints of like marks, but unlike letters", matchesOf(likeMarks(), 0, 1), "");
        x = ruled(handed("ab1", "abc"), 3, 1, 6, -1, 1);
        x.alter(0, 0, 2);
        dueText("unlike by the last letter", matchesOf(x, 0, 1), "");
        x = ruled(handed("1bc", "cbc"), 3, 1, 6, -1, 1);
        x.alter(0, 0, 2);
        dueText("unlike by the first letter", matchesOf(x, 0, 1), "");
    }

    private static void matchCommon() {
        HandedWorks x = handed("abcdef", "abcdef", "abc");
        x.rule(1, 1);
        x.rule(2, 2);
        dueText("all are common", matchesOf(x, 0, 1), "");
        x.rule(2, 3);
        dueText("one is", matchesOf(x, 0, 1), "0-0x6*");
        x.rule(2, 6);
        x.rule(3, 1);
        dueText("all are of the base", matchesOf(x, 0, 1), "");
        x.rule(3, 2);
        dueText("one is of the base", matchesOf(x, 0, 1), "0-0x6*");
        x.rule(4, 3);
        dueText("with the base", matchesOf(x, 0, 2), "");
    }

    private static void matchLongest() {
        HandedWorks x = handed("xabcdez", "yabcdew", "abcde");
        dueText("to the unlike ones", matchesOf(x, 0, 1), "1-1x5*");
        dueText("to the ends of the other", matchesOf(x, 0, 2), "1-0x5*");
        dueText("to the ends of the one", matchesOf(x, 2, 0), "0-1x5*");
        hand(x, 0, 0, 0, "abcde");
        dueText("to the ends of both", matchesOf(x, 0, 2), "0-0x5*");
        hand(x, 3, 0, 0, "abcdefgh");
        hand(x, 4, 0, 0, "abcdefgh");
        dueText("to the ends of longer ones", matchesOf(x, 3, 4), "0-0x8*");
        dueText("not over the end of the other", matchesOf(x, 3, 2), "0-0x5*");
        dueText("not over the end of the one", matchesOf(x, 2, 3), "0-0x5*");
        hand(x, 0, 0, 0, "a1b2cde");
        dueText("letters, whatever is between", matchesOf(x, 0, 2), "0-0x5*");
        // bad, at 2, is the one print in the run
        hand(x, 0, 0, 0, "acbad");
        hand(x, 1, 0, 0, "bcbad");
        dueText("ahead of the print, too", matchesOf(x, 0, 1), "1-1x4*");
        // so is abc, at 0
        hand(x, 0, 0, 0, "abcdz");
        hand(x, 1, 0, 0, "abcdy");
        dueText("behind the print, too", matchesOf(x, 0, 1), "0-0x4*");
        hand(x, 0, 0, 0, FIFTY);
        hand(x, 1, 0, 0, FIFTY);
        x.rule(4, 27);
        dueText("all fifty", matchesOf(x, 0, 1), "0-0x50*");
    }

    private static void matchOnce() {
        HandedWorks x = ruled(handed("abcdefgh", "abcdefgh"), 2, 1);
        dueText("of seven prints", matchesOf(x, 0, 1), "0-0x8*");
        hand(x, 0, 0, 0, "aaaa");
        hand(x, 1, 0, 0, "aaaaa");
        x.rule(4, 4);
        dueText("like letters all along", matchesOf(x, 0, 1), "0-0x4* 0-1x4");
    }

    private static void matchLeast() {
        HandedWorks x = handed("xabcd", "yabcd");
        dueText("four at first: just four", matchesOf(x, 0, 1), "1-1x4*");
        due("four at first", x.rule(4, 5), 4);
        dueText("one too few", matchesOf(x, 0, 1), "");
        x.rule(4, 1);
        dueText("by one", matchesOf(x, 0, 1), "1-1x4*");
        hand(x, 0, 0, 0, FIFTY);
        hand(x, 1, 0, 0, FIFTY);
        x.rule(4, 50);
        dueText("by fifty", matchesOf(x, 0, 1), "0-0x50*");
        x.cut(1, 49, 1);
        dueText("49 are too few", matchesOf(x, 0, 1), "");
        due("none is none", x.rule(4, 0), -2);
        due("51 is none", x.rule(4, 51), -2);
    }

    private static void matchOrder() {
        HandedWorks x = handed("efghxabcd", "abcdyefghzabcd");
        dueText("in the one, then in the other", matchesOf(x, 0, 1), "0-5x4* 5-0x4 5-10x4*");
        dueText("the other way", matchesOf(x, 1, 0), "0-5x4 5-0x4* 10-5x4*");
    }

    private static void chainNoEarlier() {
        HandedWorks x = handed("abcdefgh", "abcdxefgh");
        dueText("at the end in the one", matchesOf(x, 0, 1), "0-0x4* 4-5x4*");
        dueText("at the end in the other", matchesOf(x, 1, 0), "0-0x4* 5-4x4*");
        hand(x, 0, 0, 0, "abcdefg");
        hand(x, 1, 0, 0, "abcdxdefg");
        dueText("earlier by one in the one", matchesOf(x, 0, 1), "0-0x4* 3-5x4");
        dueText("earlier by one in the other", matchesOf(x, 1, 0), "0-0x4* 5-3x4");
    }

    private static void chainMost() {
        HandedWorks x = handed("ijklmnxabcdxefgh", "abcdwefghwijklmn");
        dueText("two of four are more than one of six", matchesOf(x, 0, 1), "0-10x6 7-0x4* 12-5x4*");
        hand(x, 0, 0, 0, "abcdxefghij");
        hand(x, 1, 0, 0, "efghijwabcd");
        dueText("six are more than four", matchesOf(x, 0, 1), "0-7x4 5-0x6*");
        hand(x, 0, 0, 0, "abcdxefghxijkl");
        hand(x, 1, 0, 0, "abcdyefghyijkl");
        dueText("all three", matchesOf(x, 0, 1), "0-0x4* 5-5x4* 10-10x4*");
    }

    private static void chainFirst() {
        HandedWorks x = handed("abcdxefgh", "efghyabcd");
        dueText("the earliest in the one", matchesOf(x, 0, 1), "0-5x4* 5-0x4");
        dueText("the other way", matchesOf(x, 1, 0), "0-5x4* 5-0x4");
        hand(x, 0, 0, 0, "abcd");
        hand(x, 1, 0, 0, "abcdxabcd");
        dueText("then in the other", matchesOf(x, 0, 1), "0-0x4* 0-5x4");
    }

    private static void chainSecond() {
        HandedWorks x = handed("mnopxabcdxefgh", "mnopyefghyabcd");
        dueText("the second", matchesOf(x, 0, 1), "0-0x4* 5-10x4* 10-5x4");
        hand(x, 0, 0, 0, "mnopxqrstxabcdxefgh");
        hand(x, 1, 0, 0, "mnopyqrstyefghyabcd");
        dueText("the third", matchesOf(x, 0, 1), "0-0x4* 5-5x4* 10-15x4* 15-10x4");
    }

    private static void moved() {
        HandedWorks x = handed("ijklmxabcdxefgh", "abcdwefghwijklm");
        dueText("not in it", matchesOf(x, 0, 1), "0-10x5 6-0x4* 11-5x4*");
        due("moved", x.chain(0, 1, 2), 5);
        hand(x, 0, 0, 0, "abcd");
        hand(x, 1, 0, 0, "abcdxabcdyabcd");
        due("each is told, though of the same letters", x.chain(0, 1, 2), 8);
        hand(x, 1, 0, 0, "abcd");
        due("none", x.chain(0, 1, 2), 0);
    }

    private static void dueLike(HandedWorks x, int a, int b, int above, int below) {
        due("like above", x.like(a, b, 0), above);
        due("like below", x.like(a, b, 1), below);
        due("like back, above", x.like(b, a, 0), above);
        due("like back, below", x.like(b, a, 1), below);
    }

    private static void likeUnlikeGrams() {
        // ab ba ab by ab
        dueLike(ruled(handed("abab", "ab"), 2, 1), 0, 1, 1, 2);
        dueLike(ruled(handed("abab", "baba"), 2, 1), 0, 1, 1, 1);
        dueLike(ruled(handed("aaaa", "aab"), 2, 1), 0, 1, 1, 2);
        // unlike by letters, though of like marks
        dueLike(likeMarks(), 0, 1, 0, 1);
        HandedWorks x = likeMarks();
        hand(x, 0, 2, 0, "x1x1");
        // x# #x by va
        dueLike(x, 0, 1, 0, 1);
        hand(x, 1, 2, 0, "vaxx1");
        // x# #x by va ax xx x#
        dueLike(x, 0, 1, 1, 5);
    }

    private static void likePrints() {
        // bcd by abc, which alone is a print of abcd
        HandedWorks x = handed("bcd", "abcd");
        dueLike(x, 0, 1, 0, 1);
        x.rule(1, 1);
        dueLike(x, 0, 1, 1, 2);
    }

    private static void likeBelow() {
        // ab bc cd by ab bc cx xy yz
        dueLike(ruled(handed("abcd", "abcxyz"), 2, 1), 0, 1, 1, 3);
        // ab bc by ab bc cx xy yz
        dueLike(ruled(handed("abc", "abcxyz"), 2, 1), 0, 1, 2, 5);
        // of two prints of one that has a third gram
        dueLike(ruled(handed("dcba", "cb"), 2, 2), 0, 1, 1, 2);
    }

    private static void likeCommon() {
        HandedWorks x = ruled(handed("abcd", "abcda", "abc"), 2, 1, 3);
        // ab, bc are common: cd by cd da
        dueLike(x, 0, 1, 1, 2);
        x.rule(2, 2);
        // da alone is not
        dueLike(x, 0, 1, 0, 1);
        ruled(x, 2, 1, 6, 2);
        dueLike(x, 0, 1, 1, 2);
    }

    private static void ruleBecomes() {
        HandedWorks x = new HandedWorks();
        int[] first = {3, 2, 6, -1, 4, 50};
        int[] least = {2, 1, 2, -1, 1, 0};
        int[] most = {6, 6, 6, 4, 50, 100};
        for (int what = 0; what < 6; what++) {
            due("at first " + what, x.rule(what, least[what]), first[what]);
            due("the least " + what, x.rule(what, most[what]), least[what]);
        }
        for (int what = 0; what < 6; what++) {
            due("the most " + what, x.rule(what, first[what]), most[what]);
        }
        rulesByTheirNumbers();
    }

    private static void rulesByTheirNumbers() {
        HandedWorks x = handed("abcdz", "abcdyyyyyy");
        x.rule(0, 5);
        due("K", x.mark(0, 1), NO);
        x.rule(0, 3);
        due("prints by 2", x.print(0, -1, 0), 2);
        x.rule(1, 1);
        due("N", x.print(0, -1, 0), 3);
        x.rule(2, 2);
        due("MANY", x.common(0, 0), 2);
        x.rule(2, 6);
        x.rule(3, 0);
        due("BASE", x.common(0, 0), 3);
        x.rule(3, -1);
        due("matches by 4", x.match(0, 1, -1, 0), 1);
        x.rule(4, 5);
        due("LEAST", x.match(0, 1, -1, 0), 0);
        x.rule(4, 4);
        // 4 of 5
        x.rule(5, 80);
        due("bound by 80", x.group(0), 3);
        x.rule(5, 81);
        due("LIMIT", x.group(0), 1);
    }

    private static void ruleBad() {
        HandedWorks x = new HandedWorks();
        int[][] bad = {{0, 1}, {0, 7}, {1, 0}, {1, 7}, {2, 1}, {2, 7}, {3, -2}, {3, 5}, {4, 0}, {4, 51}, {5, -1}, {5, 101},
            {-1, 3}, {6, 3}, {LEAST_INT, 3}, {MOST_INT, 3}, {0, LEAST_INT}, {3, MOST_INT}, {5, LEAST_INT}, {4, MOST_INT}};
        for (int[] b : bad) {
            due("rule " + b[0] + " by " + b[1], x.rule(b[0], b[1]), -2);
        }
        due("as it was", x.rule(3, 4), -1);
        due("as it was, too", x.rule(4, 50), 4);
    }

    private static void markOf() {
        HandedWorks x = handed("abcd", "z", "dcba");
        dueMarks(x, 0, 96354, 97347);
        dueMarks(x, 2, (100 * 31 + 99) * 31 + 98, (99 * 31 + 98) * 31 + 97);
    }

    private static void markNo() {
        HandedWorks x = handed("abcd", "ab");
        for (int w : new int[] {-1, 5, LEAST_INT, MOST_INT}) {
            due("a number " + w, x.mark(w, 0), NO);
        }
        due("missing", x.mark(2, 0), NO);
        for (int i : new int[] {-1, 2, 3, 4, LEAST_INT, MOST_INT}) {
            due("no such gram " + i, x.mark(0, i), NO);
        }
        due("none at all", x.mark(1, 0), NO);
        due("the last", x.mark(0, 1), 97347);
    }

    private static void printCount() {
        HandedWorks x = ruled(handed("dcba", "a"), 2);
        for (int what = 0; what < 3; what++) {
            due("how many " + what, x.print(0, -1, what), 2);
            due("none " + what, x.print(1, -1, what), 0);
        }
        for (int what : new int[] {-1, 3, LEAST_INT, MOST_INT}) {
            due("what " + what, x.print(0, -1, what), -2);
        }
    }

    private static void printTold() {
        // dc cb ba: prints cb, ba
        HandedWorks x = ruled(handed("dcba", "xcby", "cb"), 2, 2, 3);
        int[][] due = {{1, 3, 1}, {2, 1, 0}};
        for (int k = 0; k < 2; k++) {
            for (int what = 0; what < 3; what++) {
                due("print " + k + " what " + what, x.print(0, k, what), due[k][what]);
            }
        }
        x.rule(2, 4);
        due("not common", x.print(0, 0, 2), 0);
        x.rule(3, 0);
        due("common by the base", x.print(0, 1, 2), 1);
        // cb, of xc cb by, is a print; a gram is in a work that it is no print of, too
        hand(x, 3, 0, 0, "cba");
        due("in works, print or not", x.print(0, 0, 1), 4);
    }

    private static void printRefused() {
        HandedWorks x = ruled(handed("dcba", "a"), 2);
        for (int k : new int[] {2, 3, -2, LEAST_INT, MOST_INT}) {
            for (int what = 0; what < 3; what++) {
                due("print " + k, x.print(0, k, what), -12);
            }
            due("bad before outside", x.print(0, k, 3), -2);
            due("missing before outside", x.print(2, k, 0), -11);
        }
        due("of none", x.print(1, 0, 0), -12);
        due("bad work", x.print(-1, -1, 0), -2);
        due("bad before missing", x.print(2, -1, 3), -2);
        due("missing, how many", x.print(2, -1, 0), -11);
    }

    private static void commonTold() {
        // dc cb ba, of which cb ba are prints; dc and cb are common
        HandedWorks x = ruled(handed("dcba", "dcb"), 2, 2, 2);
        due("grams", x.common(0, 0), 2);
        due("prints", x.common(0, 1), 1);
        x.rule(3, 0);
        due("all grams", x.common(0, 0), 3);
        due("all prints", x.common(0, 1), 2);
        // each place of a gram is one
        hand(x, 1, 0, 0, "abab");
        x.rule(3, 1);
        due("a gram twice", x.common(1, 0), 3);
        hand(x, 1, 0, 0, "a");
        due("none", x.common(1, 0), 0);
    }

    private static void commonRefused() {
        HandedWorks x = handed("abc");
        for (int what : new int[] {-1, 2, LEAST_INT, MOST_INT}) {
            due("what " + what, x.common(0, what), -2);
            due("bad before missing " + what, x.common(1, what), -2);
        }
        due("bad work", x.common(5, 0), -2);
        due("missing", x.common(1, 0), -11);
        due("missing, prints", x.common(1, 1), -11);
    }

    private static void matchCount() {
        HandedWorks x = handed("abcdxefgh", "efghyabcd", "z");
        for (int what = 0; what < 4; what++) {
            due("how many " + what, x.match(0, 1, -1, what), 2);
            due("none " + what, x.match(0, 2, -1, what), 0);
        }
        for (int what : new int[] {-1, 4, LEAST_INT, MOST_INT}) {
            due("what " + what, x.match(0, 1, -1, what), -2);
        }
    }

    private static void matchTold() {
        HandedWorks x = handed("qabcdxefghi", "efghiyyabcd");
        int[][] due = {{1, 7, 4, 0}, {6, 0, 5, 1}};
        for (int k = 0; k < 2; k++) {
            for (int what = 0; what < 4; what++) {
                due("match " + k + " what " + what, x.match(0, 1, k, what), due[k][what]);
            }
        }
    }

    private static void matchRefused() {
        HandedWorks x = handed("abcd", "abcd");
        due("the same", x.match(0, 0, -1, 0), -2);
        due("the same, missing", x.match(3, 3, -1, 0), -2);
        due("bad one", x.match(5, 0, -1, 0), -2);
        due("bad other", x.match(0, -1, -1, 0), -2);
        due("the one is missing", x.match(2, 0, -1, 0), -11);
        due("the other is missing", x.match(0, 2, -1, 0), -11);
        due("bad before missing", x.match(2, 0, 0, 4), -2);
        for (int k : new int[] {1, -2, LEAST_INT, MOST_INT}) {
            for (int what = 0; what < 4; what++) {
                due("match " + k, x.match(0, 1, k, what), -12);
            }
            due("missing before outside", x.match(0, 2, k, 0), -11);
        }
        x.rule(4, 5);
        due("of none", x.match(0, 1, 0, 3), -12);
    }

    private static void chainTold() {
        HandedWorks x = handed("ijklmxabcdxefgh", "abcdwefghwijklm", "q");
        int[] due = {8, 2, 5};
        for (int what = 0; what < 3; what++) {
            due("chain what " + what, x.chain(0, 1, what), due[what]);
            due("chain back what " + what, x.chain(1, 0, what), due[what]);
            due("chain of none what " + what, x.chain(0, 2, what), 0);
        }
    }

    private static void chainRefused() {
        HandedWorks x = handed("abcd", "abcd");
        due("the same", x.chain(0, 0, 0), -2);
        due("the same, missing", x.chain(3, 3, 0), -2);
        due("bad one", x.chain(5, 0, 0), -2);
        due("bad other", x.chain(0, -1, 0), -2);
        for (int what : new int[] {-1, 3, LEAST_INT, MOST_INT}) {
            due("what " + what, x.chain(0, 1, what), -2);
            due("bad before missing " + what, x.chain(0, 2, what), -2);
        }
        due("the one is missing", x.chain(2, 0, 0), -11);
        due("the other is missing", x.chain(0, 2, 0), -11);
    }

    private static void likeTerms() {
        // ab bc by ab bc cd da: 2 of 4
        dueLike(ruled(handed("abc", "abcda"), 2, 1), 0, 1, 1, 2);
        // 3 of 3
        dueLike(ruled(handed("abcd", "abcd"), 2, 1), 0, 1, 1, 1);
        // 2 of 3 stays
        dueLike(ruled(handed("abc", "abcd"), 2, 1), 0, 1, 2, 3);
        // ab bc cx by ab bc cy yz za: 2 of 6
        dueLike(ruled(handed("abcx", "abcyza"), 2, 1), 0, 1, 1, 3);
    }

    private static void likeNone() {
        dueLike(handed("ab", "1"), 0, 1, 0, 1);
        HandedWorks x = handed("abc", "abc");
        x.rule(2, 2);
        dueLike(x, 0, 1, 0, 1);
        dueLike(handed("abc", "z"), 0, 1, 0, 1);
        // none of both, though there are some
        dueLike(ruled(handed("abc", "xyz"), 2, 1), 0, 1, 0, 1);
    }

    private static void likeRefused() {
        HandedWorks x = handed("abcd", "abcd");
        due("the same", x.like(0, 0, 0), -2);
        due("the same, missing", x.like(3, 3, 0), -2);
        due("bad one", x.like(5, 0, 0), -2);
        due("bad other", x.like(0, -1, 0), -2);
        for (int part : new int[] {-1, 2, LEAST_INT, MOST_INT}) {
            due("part " + part, x.like(0, 1, part), -2);
            due("bad before missing " + part, x.like(0, 2, part), -2);
        }
        due("the one is missing", x.like(2, 0, 0), -11);
        due("the other is missing", x.like(0, 2, 1), -11);
    }
}
