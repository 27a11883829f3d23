import java.util.List;

/** The edges of what was told and of the host: TOLD, the image, the sheets, promises 25 to 32. */
final class ToldEdges extends Asking {
    private static final String FIFTY = "abcdefghijklmnopqrstuvwxyzabcdefghijklmnopqrstuvwx";

    private ToldEdges() {
    }

    static List<Edge> terms() {
        String t = "terms 2";
        return List.of(
            new Edge(t, "TOLD: a SHEET tells of SPANS of a WORK by turn the RAW places of the first and of the last LETTER",
                ToldEdges::toldByTurn),
            new Edge(t, "(20 numbers at most)", ToldEdges::toldTwenty),
            new Edge(t, "the first that is otherwise (one too many, too few, too); NONE", ToldEdges::toldFirst),
            new Edge(t, "the least LEAST (1 .. 50), the greatest one, by which all would be so; NONE.", ToldEdges::toldLeast),
            new Edge(t, "AN IMAGE keeps all but SHEETS, THE TAPE.", ToldEdges::imageKeeps),
            new Edge(t, "SHEETS 0 .. 3 are rows of numbers, or missing (as all are at first)", ToldEdges::sheetsThere),
            new Edge(t, "of sort 0 bytes, 1 ints.", ToldEdges::sorts));
    }

    static List<Edge> promises() {
        return List.of(
            new Edge("25", "TOLD: the first (what 0; NONE), the least LEAST (1; NONE), the greatest (2; NONE).",
                ToldEdges::tellsTold),
            new Edge("25", "BAD; -11 (WORK, SHEET)", ToldEdges::tellsRefused),
            new Edge("25", "BAD: it tells more than 20.", ToldEdges::tellsTooMany),
            new Edge("26", "A SHEET truly becomes the RAW places (bytes) that SPANS of a WORK tell", ToldEdges::filmBecomes),
            new Edge("26", "the first 20: how many.", ToldEdges::filmTwenty),
            new Edge("26", "BAD; -11.", ToldEdges::filmRefused),
            new Edge("27", "AN IMAGE is kept: how many WORKS are there.", ToldEdges::imageKept),
            new Edge("28", "All that it keeps is as in THE IMAGE: how many WORKS are there.", ToldEdges::backAsKept),
            new Edge("28", "STATE: there is none.", ToldEdges::backOfNone),
            new Edge("29", "How many: 0 WORKS there, 1 RAW bytes of all, 2 LETTERS of all, 3 PRINTS of all, 4 unlike GRAMS of "
                + "all, 5 bytes of THE TAPE.", ToldEdges::counts),
            new Edge("29", "BAD.", ToldEdges::countBad),
            new Edge("30", "A SHEET becomes a row of n of a sort, all 0", ToldEdges::sheetAllZero),
            new Edge("30", "or missing (sort -1: n does not matter): 1.", ToldEdges::sheetMissing),
            new Edge("30", "BAD: no such SHEET, sort", ToldEdges::sheetBad),
            new Edge("30", "n above 40", ToldEdges::sheetTooLarge),
            new Edge("30", "-14.", ToldEdges::sheetBelow),
            new Edge("31", "Item i of a SHEET becomes v (of bytes its lowest 8 bits): 1.", ToldEdges::putBecomes),
            new Edge("31", "BAD: no such SHEET; -11; -12.", ToldEdges::putRefused),
            new Edge("32", "n numbers of a SHEET, from item i on, come to another one's item j on", ToldEdges::copyCome),
            new Edge("32", "(as they were): n.", ToldEdges::copyAsTheyWere),
            new Edge("32", "BAD: no such SHEET; -11", ToldEdges::copyRefused),
            new Edge("32", "-13: they are of unlike sorts", ToldEdges::copyUnlike),
            new Edge("32", "-12 (also with n below 0).", ToldEdges::copyOutside));
    }

    /** Work 0 has two spans: 1 to 4 of work 1, 6 to 9 of work 2. */
    private static HandedWorks twoSpans() {
        return handed("qabcd1efghz", "abcd", "efgh");
    }

    private static void dueTold(HandedWorks x, int sheet, int first, int least, int greatest) {
        due("the first", x.tells(sheet, 0, 0), first);
        due("the least", x.tells(sheet, 0, 1), least);
        due("the greatest", x.tells(sheet, 0, 2), greatest);
    }

    private static void toldByTurn() {
        HandedWorks x = twoSpans();
        putAll(x, 0, 1, 1, 4, 6, 9);
        dueTold(x, 0, -1, 1, 4);
        // the numbers of letters are 1, 4, 5, 8
        putAll(x, 0, 1, 1, 4, 5, 8);
        dueTold(x, 0, 2, -1, -1);
        putAll(x, 0, 1, 1, 6, 4, 9);
        due("not by turn", x.tells(0, 0, 0), 1);
        putAll(x, 0, 0, 1, 4, 6, 9);
        due("bytes tell so, too", x.tells(0, 0, 0), -1);
        HandedWorks y = ruled(handed("ab", "ab"), 2, 1, 6, -1, 1);
        putAll(y, 3, 0, 0, 1);
        dueTold(y, 3, -1, 1, 2);
    }

    /** So many spans of two letters, each with a letter between that no other work has. */
    private static HandedWorks manySpans(int n) {
        StringBuilder one = new StringBuilder();
        StringBuilder other = new StringBuilder();
        for (int i = 0; i < n; i++) {
            one.append((char) ('a' + 2 * i)).append((char) ('b' + 2 * i)).append('z');
            other.append((char) ('a' + 2 * i)).append((char) ('b' + 2 * i)).append(' ');
        }
        HandedWorks x = ruled(handed(one.toString()), 2, 1, 6, -1, 2);
        hand(x, 1, 0, 0, swapped(other.toString()));
        return x;
    }

    /** Pairs from the last to the first, so that no pair is behind the one that it was behind. */
    private static String swapped(String pairs) {
        StringBuilder b = new StringBuilder();
        for (int i = pairs.length() - 3; i >= 0; i -= 3) {
            b.append(pairs, i, i + 3);
        }
        return b.toString();
    }

    private static int[] placesOfPairs(int n) {
        int[] row = new int[2 * n];
        for (int i = 0; i < n; i++) {
            row[2 * i] = 3 * i;
            row[2 * i + 1] = 3 * i + 1;
        }
        return row;
    }

    private static void toldTwenty() {
        HandedWorks x = manySpans(10);
        due("ten spans", x.span(0, -1, 0), 10);
        putAll(x, 0, 1, placesOfPairs(10));
        dueTold(x, 0, -1, 1, 2);
        x.sheet(1, 1, 21);
        due("21", x.tells(1, 0, 0), -2);
        x.sheet(1, 1, 40);
        due("40", x.tells(1, 0, 0), -2);
    }

    private static void toldFirst() {
        HandedWorks x = twoSpans();
        putAll(x, 0, 1, 0, 4, 6, 9);
        due("the first is otherwise", x.tells(0, 0, 0), 0);
        putAll(x, 0, 1, 1, 4, 6, 8);
        due("the last is otherwise", x.tells(0, 0, 0), 3);
        putAll(x, 0, 1, 1, 5, 7, 9);
        due("the first of two", x.tells(0, 0, 0), 1);
        putAll(x, 0, 1, 1, 4, 6, 9, 0);
        due("one too many", x.tells(0, 0, 0), 4);
        putAll(x, 0, 1, 1, 4, 6, 9, -1);
        due("one too many, though none is a number", x.tells(0, 0, 0), 4);
        putAll(x, 0, 1, 1, 4, 6);
        due("one too few", x.tells(0, 0, 0), 3);
        putAll(x, 0, 1, 1, 4);
        due("two too few", x.tells(0, 0, 0), 2);
        x.sheet(0, 1, 0);
        due("all too few", x.tells(0, 0, 0), 0);
        putAll(x, 0, 1, 1, 4, 6, 9);
        due("none", x.tells(0, 0, 0), -1);
        hand(x, 2, 0, 0, "efg");
        due("two too many, though they were not", x.tells(0, 0, 0), 2);
        putAll(x, 0, 1, 1, 4, 6);
        due("one too many, though it was not", x.tells(0, 0, 0), 2);
        x.rule(4, 5);
        x.sheet(0, 0, 0);
        due("none of none", x.tells(0, 0, 0), -1);
    }

    private static void toldLeast() {
        // abcdef by 1 and ijklm by 2 up to 5, abcdef alone by 6
        HandedWorks x = handed("abcdefxijklm", "abcdef", "ijklm");
        putAll(x, 0, 1, 0, 5, 7, 11);
        dueTold(x, 0, -1, 1, 5);
        putAll(x, 0, 1, 0, 5);
        dueTold(x, 0, 2, 6, 6);
        x.sheet(0, 1, 0);
        dueTold(x, 0, 0, 7, 50);
        x.rule(4, 6);
        due("whatever the rule is", x.tells(0, 0, 1), 7);
        due("the rule stays", x.rule(4, 50), 6);
        dueTold(x, 0, -1, 7, 50);
        putAll(x, 0, 1, 0, 4);
        dueTold(x, 0, 0, -1, -1);
        x = handed(FIFTY, FIFTY);
        x.drop(1);
        hand(x, 1, 0, 0, FIFTY);
        putAll(x, 0, 0, 0, 49);
        dueTold(x, 0, -1, 1, 50);
        x.cut(1, 49, 1);
        x.sheet(0, 0, 0);
        dueTold(x, 0, 0, 50, 50);
    }

    private static void imageKeeps() {
        HandedWorks x = new HandedWorks();
        hand(x, 0, 3, 8, "abc d");
        hand(x, 4, 5, 9, "aab");
        int[] rules = {4, 3, 5, 2, 7, 60};
        ruled(x, rules);
        x.sheet(0, 0, 2);
        tape(x, "xy");
        due("image", x.image(), 2);
        changeAll(x);
        due("back", x.back(), 2);
        dueText("raw", rawOf(x, 0), "abc d");
        dueText("raw of 4", rawOf(x, 4), "aab");
        due("one that came", x.raw(1, -1), -11);
        due("kind", x.alter(0, 0, 3), 3);
        due("day", x.alter(0, 1, 8), 8);
        due("kind of 4", x.alter(4, 0, 5), 5);
        due("day of 4", x.alter(4, 1, 9), 9);
        for (int what = 0; what < 6; what++) {
            due("rule " + what, x.rule(what, 3), rules[what]);
        }
        due("a sheet stays as it is", x.put(0, 2, 0), 1);
        due("a missing one, too", x.put(1, 0, 0), 1);
        due("the tape stays as it is", x.count(5), 3);
        due("its bytes", x.work(2, 0, 0), 3);
        dueText("its bytes", rawOf(x, 2), "mno");
    }

    /** What an image keeps is changed, and what it doesn't keep, too. */
    private static void changeAll(HandedWorks x) {
        due("the tape is a work", x.work(1, 0, 0), 2);
        hand(x, 0, 1, 1, "new");
        x.drop(4);
        ruled(x, 2, 1, 2, -1, 1, 0);
        x.sheet(0, 1, 3);
        x.sheet(1, 1, 1);
        tape(x, "mno");
    }

    private static void sheetsThere() {
        HandedWorks x = handed("abcd");
        for (int s = 0; s < 4; s++) {
            due("missing at first " + s, x.put(s, 0, 0), -11);
            due("tells of none " + s, x.tells(s, 0, 0), -11);
            due("there " + s, x.sheet(s, s % 2, 1), 1);
            due("one item " + s, x.put(s, 0, 5), 1);
            due("no other " + s, x.put(s, 1, 5), -12);
        }
        for (int s : new int[] {-1, 4, LEAST_INT, MOST_INT}) {
            due("no sheet " + s, x.sheet(s, 0, 1), -2);
            due("none is missing " + s, x.sheet(s, -1, 1), -2);
            due("put " + s, x.put(s, 0, 0), -2);
            due("copy of " + s, x.copy(s, 0, 0, 0, 1), -2);
            due("copy to " + s, x.copy(0, 0, s, 0, 1), -2);
            due("tells " + s, x.tells(s, 0, 0), -2);
            due("film " + s, x.film(s, 0), -2);
        }
    }

    private static void sorts() {
        HandedWorks x = twoSpans();
        putAll(x, 0, 0, 257, 4 - 256, 6 + 512, 9 - 1024);
        due("bytes are 0 .. 255", x.tells(0, 0, 0), -1);
        putAll(x, 0, 1, 257, 4, 6, 9);
        due("ints are as they come", x.tells(0, 0, 0), 0);
        putAll(x, 0, 1, 1, 4, 6 + 65536, 9);
        due("ints are whole", x.tells(0, 0, 0), 2);
    }

    private static void tellsTold() {
        HandedWorks x = twoSpans();
        putAll(x, 0, 0, 1, 4, 6, 9);
        dueTold(x, 0, -1, 1, 4);
        putAll(x, 0, 0, 1, 4, 6, 8);
        dueTold(x, 0, 3, -1, -1);
        putAll(x, 2, 1, 0, 3);
        due("of work 1", x.tells(2, 1, 0), -1);
        due("of work 1, the least", x.tells(2, 1, 1), 1);
        due("of work 1, the greatest", x.tells(2, 1, 2), 4);
    }

    private static void tellsRefused() {
        HandedWorks x = twoSpans();
        x.sheet(0, 0, 0);
        for (int what : new int[] {-1, 3, LEAST_INT, MOST_INT}) {
            due("what " + what, x.tells(0, 0, what), -2);
            due("bad before missing " + what, x.tells(1, 3, what), -2);
        }
        due("bad sheet", x.tells(4, 0, 0), -2);
        due("bad sheet -1", x.tells(-1, 0, 0), -2);
        due("bad work", x.tells(0, 5, 0), -2);
        due("bad work -1", x.tells(0, -1, 0), -2);
        for (int what = 0; what < 3; what++) {
            due("the work is missing " + what, x.tells(0, 3, what), -11);
            due("the sheet is missing " + what, x.tells(1, 0, what), -11);
            due("both are " + what, x.tells(1, 3, what), -11);
        }
    }

    private static void tellsTooMany() {
        HandedWorks x = twoSpans();
        for (int n = 19; n <= 22; n++) {
            for (int sort = 0; sort < 2; sort++) {
                x.sheet(0, sort, n);
                for (int what = 0; what < 3; what++) {
                    int due = n > 20 ? -2 : what == 0 ? 0 : -1;
                    due("of " + n + " what " + what, x.tells(0, 0, what), due);
                }
            }
        }
        due("missing is told first", x.tells(0, 3, 0), -11);
        due("of a work without letters, too", x.drop(2), 4);
        hand(x, 2, 0, 0, "1");
        due("bad", x.tells(0, 2, 0), -2);
    }

    private static void filmBecomes() {
        HandedWorks x = twoSpans();
        due("a missing one", x.film(3, 0), 4);
        dueTold(x, 3, -1, 1, 4);
        x.sheet(1, 0, 4);
        due("of bytes", x.copy(3, 0, 1, 0, 4), 4);
        due("no other item", x.put(3, 4, 0), -12);
        x.sheet(2, 1, 40);
        due("another sort, another size", x.film(2, 0), 4);
        due("bytes then", x.copy(2, 0, 1, 0, 4), 4);
        due("four items then", x.put(2, 4, 0), -12);
        x.rule(4, 5);
        due("no span", x.film(2, 0), 0);
        due("a row of none", x.put(2, 0, 0), -12);
        due("which is there", x.copy(2, 0, 1, 0, 0), 0);
    }

    private static void filmTwenty() {
        HandedWorks x = manySpans(10);
        due("ten spans", x.film(0, 0), 20);
        due("all are told", x.tells(0, 0, 0), -1);
        x = manySpans(11);
        due("eleven are there", x.span(0, -1, 0), 11);
        due("eleven spans", x.film(0, 0), 20);
        due("no item 20", x.put(0, 20, 0), -12);
        due("item 19", x.copy(0, 19, 0, 19, 1), 1);
        // the ten first ones are those of the ten that are left
        x.cut(0, 30, 2);
        due("ten are left", x.span(0, -1, 0), 10);
        due("the first 20", x.tells(0, 0, 0), -1);
        due("one span", handed("abcd", "abcd").film(0, 0), 2);
    }

    private static void filmRefused() {
        HandedWorks x = twoSpans();
        x.sheet(0, 1, 3);
        for (int bad : new int[] {-1, LEAST_INT, MOST_INT}) {
            due("sheet " + bad, x.film(bad, 0), -2);
            due("work " + bad, x.film(0, bad), -2);
        }
        due("sheet 4", x.film(4, 0), -2);
        due("sheet 4, missing", x.film(4, 3), -2);
        due("work 5", x.film(0, 5), -2);
        due("missing", x.film(0, 3), -11);
        due("the sheet is as it was", x.put(0, 2, 1), 1);
        due("missing, on a missing one", x.film(1, 3), -11);
        due("which is none still", x.put(1, 0, 0), -11);
    }

    private static void imageKept() {
        HandedWorks x = new HandedWorks();
        due("none", x.image(), 0);
        for (int w = 0; w < 5; w++) {
            hand(x, w, 0, 0, "abc");
            due("so many", x.image(), w + 1);
        }
        x.drop(0);
        due("four", x.image(), 4);
        hand(x, 0, 0, 0, "abc");
        due("the last image is the one", x.back(), 4);
        due("without work 0", x.raw(0, -1), -11);
    }

    private static void backAsKept() {
        HandedWorks x = handed("abc", "xyz");
        x.image();
        x.cut(0, 1, 1);
        x.rule(0, 2);
        x.drop(1);
        due("two", x.back(), 2);
        dueText("raw", rawOf(x, 0), "abc");
        x.splice(0, 0, 1, 0, 3);
        x.alter(1, 1, 44);
        due("the image stays", x.back(), 2);
        dueText("raw again", rawOf(x, 0), "abc");
        due("day again", x.alter(1, 1, 0), 0);
        due("rule again", x.rule(0, 3), 3);
        HandedWorks y = new HandedWorks();
        y.image();
        hand(y, 0, 0, 0, "abc");
        due("an image of none", y.back(), 0);
        due("none is there", y.raw(0, -1), -11);
    }

    private static void backOfNone() {
        HandedWorks x = handed("abc");
        due("none", x.back(), -3);
        dueText("as it was", rawOf(x, 0), "abc");
        due("works", x.count(0), 1);
        x.image();
        due("one", x.back(), 1);
    }

    private static void dueCounts(HandedWorks x, int... counts) {
        for (int what = 0; what < counts.length; what++) {
            due("count " + what, x.count(what), counts[what]);
        }
    }

    private static void counts() {
        HandedWorks x = new HandedWorks();
        dueCounts(x, 0, 0, 0, 0, 0, 0);
        // abc bcd by 0; bcd cda dab abc by 0, 1, 3
        hand(x, 0, 0, 0, "abcd 1");
        hand(x, 3, 0, 0, "bcd2abc");
        hand(x, 4, 0, 0, "1");
        tape(x, "1Z");
        dueCounts(x, 3, 14, 10, 4, 4, 2);
        for (int w = 0; w < 5; w++) {
            x.work(w, 0, 0);
            hand(x, w, 0, 0, FIFTY);
        }
        tape(x, FIFTY);
        // abc to xyz, yza, zab, abc to vwx: of two one behind the other the first is less, but of zab and abc
        dueCounts(x, 5, 250, 250, 5 * 46, 26, 50);
        x.work(0, 5, 0);
        hand(x, 0, 4, 0, "\n1\"a");
        due("letters by the kind", x.count(2), 201);
        due("bytes of all then", x.count(1), 204);
        // x# and va have the same mark
        x = handed("va", "x1");
        x.alter(1, 0, 2);
        x.rule(0, 2);
        due("unlike by letters", x.count(4), 2);
    }

    private static void countBad() {
        HandedWorks x = handed("abc");
        for (int what : new int[] {-1, 6, LEAST_INT, MOST_INT}) {
            due("count " + what, x.count(what), -2);
        }
    }

    private static void sheetAllZero() {
        HandedWorks x = ruled(handed("abcd", "abcd"), 3, 1);
        for (int sort = 0; sort < 2; sort++) {
            putAll(x, sort, sort, 0, 3);
            due("0, 3", x.tells(sort, 0, 0), -1);
            due("anew", x.sheet(sort, sort, 2), 1);
            due("all 0", x.tells(sort, 0, 0), 1);
            x.put(sort, 1, 3);
            due("0, 3 again", x.tells(sort, 0, 0), -1);
            x.put(sort, 0, 9);
            x.sheet(sort, sort, 0);
            x.sheet(sort, sort, 2);
            x.put(sort, 1, 3);
            due("all 0, though it was none", x.tells(sort, 0, 0), -1);
            due("40", x.sheet(sort, sort, 40), 1);
            due("the last", x.put(sort, 39, 1), 1);
            due("none behind", x.put(sort, 40, 1), -12);
            due("0", x.sheet(sort, sort, 0), 1);
            due("no item", x.put(sort, 0, 1), -12);
        }
        for (int s = 0; s < 4; s++) {
            putAll(x, s, 0, 0, 3);
        }
        x.sheet(1, 0, 40);
        x.sheet(2, 1, 0);
        due("the one ahead is as it was", x.tells(0, 0, 0), -1);
        due("the one behind is as it was", x.tells(3, 0, 0), -1);
    }

    private static void sheetMissing() {
        HandedWorks x = new HandedWorks();
        for (int n : new int[] {0, 1, 40, 41, -1, LEAST_INT, MOST_INT}) {
            x.sheet(2, 0, 3);
            due("away by " + n, x.sheet(2, -1, n), 1);
            due("is missing", x.put(2, 0, 0), -11);
            due("away again by " + n, x.sheet(2, -1, n), 1);
        }
    }

    private static void sheetBad() {
        HandedWorks x = new HandedWorks();
        x.sheet(0, 0, 3);
        for (int s : new int[] {-1, 4, LEAST_INT, MOST_INT}) {
            for (int sort = -1; sort < 2; sort++) {
                due("sheet " + s + " of sort " + sort, x.sheet(s, sort, 1), -2);
            }
        }
        for (int sort : new int[] {-2, 2, LEAST_INT, MOST_INT}) {
            due("sort " + sort, x.sheet(0, sort, 1), -2);
            due("bad is told first " + sort, x.sheet(0, sort, -1), -2);
        }
        due("as it was", x.put(0, 2, 1), 1);
    }

    private static void sheetTooLarge() {
        HandedWorks x = new HandedWorks();
        x.sheet(0, 0, 3);
        for (int sort = 0; sort < 2; sort++) {
            due("41", x.sheet(0, sort, 41), -2);
            due("most", x.sheet(0, sort, MOST_INT), -2);
            due("as it was", x.put(0, 2, 1), 1);
            due("not larger", x.put(0, 3, 1), -12);
            due("40", x.sheet(1, sort, 40), 1);
        }
    }

    private static void sheetBelow() {
        HandedWorks x = new HandedWorks();
        x.sheet(0, 0, 3);
        for (int sort = 0; sort < 2; sort++) {
            due("-1", x.sheet(0, sort, -1), -14);
            due("least", x.sheet(0, sort, LEAST_INT), -14);
            due("as it was", x.put(0, 2, 1), 1);
            due("0", x.sheet(1, sort, 0), 1);
        }
    }

    private static void putBecomes() {
        HandedWorks x = twoSpans();
        putAll(x, 0, 0, 1, 4, 6, 9);
        int[] like = {9, 265, -247, 9 + 256 * 256, 9 + LEAST_INT};
        for (int v : like) {
            x.put(0, 3, 0);
            due("put " + v, x.put(0, 3, v), 1);
            due("its lowest 8 bits of " + v, x.tells(0, 0, 0), -1);
        }
        putAll(x, 1, 1, 1, 4, 6, 9);
        for (int v : like) {
            due("put int " + v, x.put(1, 3, v), 1);
            due("all of " + v, x.tells(1, 0, 0), v == 9 ? -1 : 3);
        }
        x.put(1, 3, 9);
        due("the first item", x.put(1, 0, 2), 1);
        due("is otherwise", x.tells(1, 0, 0), 0);
        due("no other sheet", x.put(0, 3, 9), 1);
        due("is", x.tells(0, 0, 0), -1);
    }

    private static void putRefused() {
        HandedWorks x = new HandedWorks();
        x.sheet(1, 0, 3);
        x.sheet(3, 1, 40);
        for (int s : new int[] {-1, 4, LEAST_INT, MOST_INT}) {
            due("sheet " + s, x.put(s, 0, 0), -2);
            due("bad before outside " + s, x.put(s, -1, 0), -2);
        }
        due("missing", x.put(0, 0, 0), -11);
        due("missing before outside", x.put(0, 40, 0), -11);
        for (int i : new int[] {-1, 3, 40, LEAST_INT, MOST_INT}) {
            due("item " + i, x.put(1, i, 0), -12);
        }
        due("item 40 of forty", x.put(3, 40, 0), -12);
        due("the first", x.put(1, 0, 0), 1);
        due("the last", x.put(1, 2, 0), 1);
        due("the last of forty", x.put(3, 39, 0), 1);
    }

    private static void copyCome() {
        HandedWorks x = twoSpans();
        putAll(x, 0, 1, 7, 1, 4, 6, 9, 8);
        putAll(x, 1, 1, 5, 5, 5, 5);
        due("to the first", x.copy(0, 1, 1, 0, 4), 4);
        due("told", x.tells(1, 0, 0), -1);
        due("the one stays", x.copy(0, 1, 1, 0, 4), 4);
        putAll(x, 1, 1, 1, 0, 0, 9);
        due("to the middle", x.copy(0, 2, 1, 1, 2), 2);
        due("told then", x.tells(1, 0, 0), -1);
        putAll(x, 1, 1, 1, 4, 6, 0);
        due("to the last", x.copy(0, 4, 1, 3, 1), 1);
        due("told at last", x.tells(1, 0, 0), -1);
        due("from the last", x.copy(0, 5, 1, 3, 1), 1);
        due("is otherwise", x.tells(1, 0, 0), 3);
        putAll(x, 2, 1, 1, 4, 6, 9);
        x.sheet(1, 1, 40);
        due("forty", x.copy(1, 0, 1, 0, 40), 40);
        due("the one behind is as it was", x.tells(2, 0, 0), -1);
        putAll(x, 1, 1, 1, 4, 6, 8);
        due("none", x.copy(0, 0, 1, 0, 0), 0);
        due("changes nothing", x.tells(1, 0, 0), 3);
        putAll(x, 2, 0, 1, 4, 6, 9);
        x.sheet(3, 0, 4);
        due("bytes", x.copy(2, 0, 3, 0, 4), 4);
        due("bytes are told", x.tells(3, 0, 0), -1);
    }

    private static void copyAsTheyWere() {
        HandedWorks x = twoSpans();
        putAll(x, 0, 1, 1, 4, 6, 9, 0);
        due("to itself, on", x.copy(0, 0, 0, 1, 4), 4);
        due("1 1 4 6 9", x.tells(0, 0, 0), 1);
        x.sheet(1, 1, 4);
        due("those four", x.copy(0, 1, 1, 0, 4), 4);
        due("as they were", x.tells(1, 0, 0), -1);
        due("to itself, back", x.copy(0, 1, 0, 0, 4), 4);
        due("1 4 6 9 9", x.tells(0, 0, 0), 4);
        due("to its own place", x.copy(0, 0, 0, 0, 5), 5);
        due("still", x.tells(0, 0, 0), 4);
    }

    private static void copyRefused() {
        HandedWorks x = new HandedWorks();
        x.sheet(0, 0, 2);
        for (int s : new int[] {-1, 4, LEAST_INT, MOST_INT}) {
            due("the one " + s, x.copy(s, 0, 0, 0, 1), -2);
            due("the other " + s, x.copy(0, 0, s, 0, 1), -2);
            due("bad before missing " + s, x.copy(1, 0, s, 0, 1), -2);
        }
        due("the one is missing", x.copy(1, 0, 0, 0, 1), -11);
        due("the other is missing", x.copy(0, 0, 1, 0, 1), -11);
        due("both are", x.copy(1, 0, 2, 0, 1), -11);
        due("missing, of none", x.copy(1, 0, 0, 0, 0), -11);
        due("missing before outside", x.copy(1, -1, 0, 0, -1), -11);
    }

    private static void copyUnlike() {
        HandedWorks x = new HandedWorks();
        x.sheet(0, 0, 2);
        x.sheet(1, 1, 2);
        due("bytes to ints", x.copy(0, 0, 1, 0, 1), -13);
        due("ints to bytes", x.copy(1, 0, 0, 0, 1), -13);
        due("of none", x.copy(0, 0, 1, 0, 0), -13);
        due("unlike before outside", x.copy(0, 9, 1, 9, -1), -13);
        x.sheet(1, 0, 2);
        due("like then", x.copy(0, 0, 1, 0, 1), 1);
    }

    private static void copyOutside() {
        HandedWorks x = new HandedWorks();
        x.sheet(0, 0, 3);
        x.sheet(1, 0, 5);
        int[][] rows = {
            {0, 0, -1}, {0, 0, LEAST_INT}, {-1, 0, 1}, {0, -1, 1}, {3, 0, 1}, {0, 5, 1}, {0, 0, 4}, {1, 0, 3}, {0, 3, 3},
            {0, 4, 2}, {4, 0, 0}, {0, 6, 0}, {-1, 0, 0}, {0, -1, 0}, {MOST_INT, 0, 1}, {0, MOST_INT, 1}, {0, 0, MOST_INT},
            {MOST_INT, MOST_INT, MOST_INT}, {LEAST_INT, 0, MOST_INT}, {0, LEAST_INT, MOST_INT}, {LEAST_INT, LEAST_INT, LEAST_INT}};
        for (int[] r : rows) {
            due("copy from " + r[0] + " to " + r[1] + " n " + r[2], x.copy(0, r[0], 1, r[1], r[2]), -12);
        }
        due("more than the other has", x.copy(1, 0, 0, 0, 4), -12);
        due("all", x.copy(0, 0, 1, 2, 3), 3);
        due("the last", x.copy(0, 2, 1, 4, 1), 1);
        due("none at the ends", x.copy(0, 3, 1, 5, 0), 0);
    }
}
