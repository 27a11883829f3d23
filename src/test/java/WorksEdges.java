import java.util.List;

/** The edges of works and letters: the first terms, promises 1 to 10. */
final class WorksEdges extends Asking {
    private static final int[] NO_WORKS = {-1, 5, LEAST_INT, MOST_INT};
    private static final String FIFTY = "abcdefghijklmnopqrstuvwxyzabcdefghijklmnopqrstuvwx";

    private WorksEdges() {
    }

    static List<Edge> terms() {
        String t = "terms 1";
        return List.of(
            new Edge("head", "An object is used for at most 512 calls after it has been made; what later calls answer "
                + "is free.", WorksEdges::call512),
            new Edge(t, "WORKS 0 .. 4 are missing (at first) or there", WorksEdges::worksThere),
            new Edge(t, "a RAW text (1 .. 50 bytes", WorksEdges::rawText),
            new Edge(t, "a .. z, 0 .. 9, blank 32, line end 10, quote 34", WorksEdges::rawBytes),
            new Edge(t, "a KIND", WorksEdges::kindsThere),
            new Edge(t, "a DAY (0 .. 99)", WorksEdges::days),
            new Edge(t, "NONE is -1; NO (where a long is answered) -4611686018427387904.", WorksEdges::constants),
            new Edge(t, "The LETTERS of a WORK are what COUNTS of its RAW bytes, in turn, each told as its KIND tells it.",
                WorksEdges::lettersInTurn),
            new Edge(t, "QUOTED is a byte behind an odd number of quotes.", WorksEdges::quoted),
            new Edge(t, "KINDS: 0 PLAIN: a .. z COUNT; each is told as it is.", WorksEdges::plain),
            new Edge(t, "1 QUOTING under PLAIN: what COUNTS in a PLAIN one and isn't QUOTED.", WorksEdges::quoting),
            new Edge(t, "2 CODE under PLAIN: so, and digits that have no digit right ahead COUNT", WorksEdges::codeCounts),
            new Edge(t, "digits are told as #.", WorksEdges::codeTells),
            new Edge(t, "3 RENAMED under CODE: of what a CODE tells a letter a .. z with none right ahead and none right "
                + "behind (RAW) is told as v.", WorksEdges::renamed),
            new Edge(t, "4 VERSE under QUOTING: line ends COUNT, too, and are told as /.", WorksEdges::verse),
            new Edge(t, "5 LOOSE under QUOTING: what COUNTS in a QUOTING one and isn't like the byte right ahead.",
                WorksEdges::loose),
            new Edge("in doubt", "RENAMED: none of a .. z right ahead, and none right behind; other bytes don't matter.",
                WorksEdges::renamedBesideOthers),
            new Edge("in doubt", "VERSE: line ends COUNT, QUOTED or not.", WorksEdges::verseQuoted));
    }

    static List<Edge> promises() {
        return List.of(
            new Edge("1", "No WORKS.", WorksEdges::noWorks),
            new Edge("2", "n bytes (1 .. 5), a, b, ..", WorksEdges::feedCounts),
            new Edge("2", "(all 0 .. 255, also those that are not asked)", WorksEdges::feedBytes),
            new Edge("2", "come behind THE TAPE (50 at most): how many it has.", WorksEdges::feedTape),
            new Edge("2", "BAD; FULL: they have no room.", WorksEdges::feedFull),
            new Edge("3", "THE TAPE, which is empty then (by a FAULT, too)", WorksEdges::workEmptiesTape),
            new Edge("3", "is the RAW text of a WORK (another one goes): how long.", WorksEdges::workAnotherGoes),
            new Edge("3", "BAD (THE TAPE stays)", WorksEdges::workBad),
            new Edge("3", "STATE: it is none (THE TAPE is empty, the WORK as it was).", WorksEdges::workState),
            new Edge("4", "n RAW bytes of another one (or itself), from place from on", WorksEdges::spliceFrom),
            new Edge("4", "come into a WORK ahead of its place at (its size: behind it all)", WorksEdges::spliceAt),
            new Edge("4", "as they were: how long it is.", WorksEdges::spliceItself),
            new Edge("4", "BAD; -11 (either)", WorksEdges::spliceMissing),
            new Edge("4", "-12 (also with n below 1)", WorksEdges::spliceOutside),
            new Edge("4", "FULL.", WorksEdges::spliceFull),
            new Edge("5", "n RAW bytes of a WORK go, from place at on: how long it is.", WorksEdges::cutGoes),
            new Edge("5", "BAD; -11", WorksEdges::cutMissing),
            new Edge("5", "-12 (also with n below 1)", WorksEdges::cutOutside),
            new Edge("5", "STATE: it would have none.", WorksEdges::cutAll),
            new Edge("6", "A WORK is missing: how long it was.", WorksEdges::dropMissing),
            new Edge("6", "BAD; -11.", WorksEdges::dropRefused),
            new Edge("7", "KIND (what 0), DAY (1) of a WORK becomes v: what it was.", WorksEdges::alterBecomes),
            new Edge("7", "BAD; -11.", WorksEdges::alterRefused),
            new Edge("8", "RAW: how long (i -1), byte i.", WorksEdges::rawByte),
            new Edge("8", "BAD; -11; -12.", WorksEdges::rawRefused),
            new Edge("9", "LETTERS: how many (i -1; a what that is none is refused, too)", WorksEdges::letterCount),
            new Edge("9", "of LETTER i as what it is told (what 0), its RAW place (1).", WorksEdges::letterTold),
            new Edge("9", "BAD; -11; -12.", WorksEdges::letterRefused),
            new Edge("10", "A WORK taken for one of KIND k, or one under that", WorksEdges::takenKinds),
            new Edge("10", "how many of its LETTERS are unlike those that a PLAIN one tells of the same RAW bytes",
                WorksEdges::takenUnlike),
            new Edge("10", "or aren't any there.", WorksEdges::takenNotThere),
            new Edge("10", "BAD; -11; -13.", WorksEdges::takenRefused));
    }

    private static void call512() {
        HandedWorks x = new HandedWorks();
        for (int i = 0; i < 255; i++) {
            due("call " + (2 * i + 1), x.feed(1, 'a' + i % 26, 0, 0, 0, 0), 1);
            due("call " + (2 * i + 2), x.work(i % 5, 0, 0), 1);
        }
        due("call 511", x.raw(4, 0), 'a' + 254 % 26);
        due("call 512", x.count(0), 5);
        for (int i = 0; i < 600; i++) {
            x.feed(5, 'a', 'b', 'c', 'd', 'e');
            x.work(i % 6, 0, 0);
            x.splice(0, 0, 1, 0, 5);
            x.share(i % 5, 0);
        }
    }

    private static void noSuchWork(int w) {
        HandedWorks x = handed("abc");
        x.sheet(0, 0, 0);
        tape(x, "abc");
        due("work " + w, x.work(w, 0, 0), -2);
        refusedAll(x, w, -2);
        due("tape stays", x.count(5), 3);
    }

    /** Each call that is told a work, with work w; work 0 and sheet 0 are there. */
    private static void refusedAll(HandedWorks x, int w, int want) {
        long[] answers = {
            x.splice(w, 0, 0, 0, 1), x.splice(0, 0, w, 0, 1), x.cut(w, 0, 1), x.drop(w), x.alter(w, 0, 0),
            x.alter(w, 1, 0), x.raw(w, -1), x.letter(w, -1, 0), x.taken(w, 0), x.print(w, -1, 0), x.common(w, 0),
            x.match(w, 0, -1, 0), x.match(0, w, -1, 0), x.chain(w, 0, 0), x.chain(0, w, 0), x.like(w, 0, 0),
            x.like(0, w, 0), x.span(w, -1, 0), x.source(w, 0), x.share(w, 0), x.group(w), x.without(w, 0),
            x.without(0, w), x.drawn(w, 1, 1, 0), x.chance(w, 1, 1, 0, 0), x.tells(0, w, 0), x.film(0, w)};
        for (int i = 0; i < answers.length; i++) {
            due("call " + i + " of work " + w, answers[i], want);
        }
        due("mark of work " + w, x.mark(w, 0), NO);
    }

    private static void worksThere() {
        HandedWorks x = new HandedWorks();
        for (int w = 0; w < 5; w++) {
            due("missing at first", x.raw(w, -1), -11);
            hand(x, w, 0, 0, "abc");
            due("there", x.raw(w, -1), 3);
            due("so many", x.count(0), w + 1);
        }
        for (int w : NO_WORKS) {
            noSuchWork(w);
        }
        for (int w = 1; w < 5; w++) {
            HandedWorks y = handed("abc");
            y.sheet(0, 0, 0);
            refusedAll(y, w, -11);
        }
    }

    private static void rawText() {
        HandedWorks x = new HandedWorks();
        due("no byte", x.work(0, 0, 0), -3);
        hand(x, 0, 0, 0, "a");
        due("one byte", x.raw(0, -1), 1);
        hand(x, 0, 0, 0, FIFTY);
        due("fifty bytes", x.raw(0, -1), 50);
        dueText("fifty bytes", rawOf(x, 0), FIFTY);
    }

    private static void rawBytes() {
        for (int c = 0; c < 256; c++) {
            HandedWorks x = new HandedWorks();
            boolean raw = "abcdefghijklmnopqrstuvwxyz0123456789 \n\"".indexOf(c) >= 0;
            x.feed(1, c, 0, 0, 0, 0);
            due("byte " + c, x.work(0, 0, 0), raw ? 1 : -3);
            x.feed(3, 'a', c, 'a', 0, 0);
            due("among others " + c, x.work(1, 0, 0), raw ? 3 : -3);
            x.feed(2, 'a', c, 0, 0, 0);
            due("at the end " + c, x.work(2, 0, 0), raw ? 2 : -3);
        }
    }

    private static void kindsThere() {
        for (int kind = 0; kind < 6; kind++) {
            HandedWorks x = new HandedWorks();
            hand(x, 0, kind, 0, "a");
            due("kind " + kind, x.alter(0, 0, kind), kind);
        }
        HandedWorks x = handed("a");
        for (int kind : new int[] {-1, 6, LEAST_INT, MOST_INT}) {
            tape(x, "b");
            due("no kind " + kind, x.work(0, kind, 0), -2);
            due("no kind, altered " + kind, x.alter(0, 0, kind), -2);
        }
    }

    private static void days() {
        HandedWorks x = new HandedWorks();
        for (int day : new int[] {0, 99}) {
            hand(x, 0, 0, day, "a");
            due("day " + day, x.alter(0, 1, day), day);
        }
        for (int day : new int[] {-1, 100, LEAST_INT, MOST_INT}) {
            tape(x, "b");
            due("no day " + day, x.work(0, 0, day), -2);
            due("no day, altered " + day, x.alter(0, 1, day), -2);
        }
        due("as it was", x.alter(0, 1, 5), 99);
    }

    private static void constant(String name, long want) {
        try {
            due(name, HandedWorks.class.getField(name).getLong(null), want);
        } catch (ReflectiveOperationException e) {
            fault(name + " is none");
        }
    }

    private static void constants() {
        constant("NONE", -1);
        constant("BAD", -2);
        constant("STATE", -3);
        constant("FULL", -4);
        constant("NO", -4611686018427387904L);
        HandedWorks x = handed("abcd");
        due("NONE answered", x.source(0, 0), -1);
        due("NO answered", x.mark(0, 2), -4611686018427387904L);
    }

    private static HandedWorks ofKind(int kind, String text) {
        HandedWorks x = new HandedWorks();
        hand(x, 0, kind, 0, text);
        return x;
    }

    private static void dueLetters(int kind, String text, String letters, String places) {
        HandedWorks x = ofKind(kind, text);
        dueText("letters of <" + text + ">", lettersOf(x, 0), letters);
        dueText("places of <" + text + ">", placesOf(x, 0), places);
    }

    private static void lettersInTurn() {
        dueLetters(0, "1b a\nb", "bab", "1 3 5");
        dueLetters(2, "b 1a", "b#a", "0 2 3");
        dueLetters(4, "b\na", "b/a", "0 1 2");
        dueLetters(0, "1 \n\"", "", "");
        dueLetters(0, "a", "a", "0");
        HandedWorks x = ofKind(0, "a1");
        dueText("by the kind it had", lettersOf(x, 0), "a");
        x.alter(0, 0, 2);
        dueText("by the kind it has", lettersOf(x, 0), "a#");
    }

    private static void quoted() {
        dueLetters(1, "a\"b\"c\"d\"e", "ace", "0 4 8");
        dueLetters(1, "a\"b", "a", "0");
        dueLetters(1, "\"\"a", "a", "2");
        dueLetters(1, "\"\"\"a", "", "");
        dueLetters(1, "\"\"\"\"a", "a", "4");
        HandedWorks x = new HandedWorks();
        hand(x, 0, 1, 0, "a\"b");
        hand(x, 1, 1, 0, "cd");
        dueText("quotes of one work end with it", lettersOf(x, 1), "cd");
    }

    private static void plain() {
        dueLetters(0, "a z09 \n\"m\"", "azm", "0 2 8");
        dueText("a to z", lettersOf(ofKind(0, FIFTY.substring(0, 26)), 0), FIFTY.substring(0, 26));
        dueLetters(0, "aa", "aa", "0 1");
        dueLetters(0, " v ", "v", "1");
    }

    private static void quoting() {
        dueLetters(1, "ab\"cd\"ef 1\n", "abef", "0 1 6 7");
        dueLetters(1, "\"ab\"", "", "");
        dueLetters(1, "aa", "aa", "0 1");
    }

    private static void codeCounts() {
        dueLetters(2, "1a23 4b5", "#a##b#", "0 1 2 5 6 7");
        dueLetters(2, "1234", "#", "0");
        dueLetters(2, "1\n2\"3", "###", "0 2 4");
        dueLetters(2, "\"a1\"", "a#", "1 2");
        dueLetters(2, "a z\n", "az", "0 2");
    }

    private static void codeTells() {
        for (char c = '0'; c <= '9'; c++) {
            HandedWorks x = ofKind(2, "" + c);
            due("digit " + c, x.letter(0, 0, 0), '#');
            x.alter(0, 0, 3);
            due("digit renamed " + c, x.letter(0, 0, 0), '#');
        }
        dueLetters(2, "a", "a", "0");
    }

    private static void renamed() {
        dueLetters(3, "a", "v", "0");
        dueLetters(3, "ab", "ab", "0 1");
        dueLetters(3, "abc", "abc", "0 1 2");
        dueLetters(3, "a bc d", "vbcv", "0 2 3 5");
        dueLetters(3, "a a", "vv", "0 2");
        dueLetters(3, "12a34", "#v#", "0 2 3");
    }

    private static void renamedBesideOthers() {
        dueLetters(3, "1a1", "#v#", "0 1 2");
        dueLetters(3, "\"b\"", "v", "1");
        dueLetters(3, "\nc\n", "v", "1");
        dueLetters(3, " z ", "v", "1");
        dueLetters(3, "1ab1", "#ab#", "0 1 2 3");
        dueLetters(3, "za z az", "zavaz", "0 1 3 5 6");
    }

    private static void verse() {
        dueLetters(4, "a\nb", "a/b", "0 1 2");
        dueLetters(4, "\n", "/", "0");
        dueLetters(4, "\n\n", "//", "0 1");
        dueLetters(4, "a\"b\"1 c", "ac", "0 6");
    }

    private static void verseQuoted() {
        dueLetters(4, "a\n\"b\nc\"d\n", "a//d/", "0 1 4 7 8");
        dueLetters(4, "\"\n", "/", "1");
    }

    private static void loose() {
        dueLetters(5, "aab\"b\"bb ccc a", "abbca", "0 2 6 9 13");
        dueLetters(5, "aaaa", "a", "0");
        dueLetters(5, "a a", "aa", "0 2");
        dueLetters(5, "ab\"a\"c", "abc", "0 1 5");
        dueLetters(5, "a", "a", "0");
        dueLetters(5, "11\n\n", "", "");
    }

    private static void noWorks() {
        HandedWorks x = new HandedWorks();
        due("works", x.count(0), 0);
        due("bytes", x.count(1), 0);
        due("letters", x.count(2), 0);
        due("prints", x.count(3), 0);
        due("grams", x.count(4), 0);
        due("tape", x.count(5), 0);
        for (int w = 0; w < 5; w++) {
            due("missing", x.drop(w), -11);
        }
        handed("abc");
        due("objects are apart", x.count(0), 0);
    }

    private static void feedCounts() {
        for (int n : new int[] {0, 6, -1, LEAST_INT, MOST_INT}) {
            HandedWorks x = new HandedWorks();
            due("feed " + n, x.feed(n, 'a', 'a', 'a', 'a', 'a'), -2);
            due("nothing came by " + n, x.count(5), 0);
        }
        for (int n = 1; n <= 5; n++) {
            HandedWorks x = new HandedWorks();
            due("feed " + n, x.feed(n, 'a', 'b', 'c', 'd', 'e'), n);
            due("work of " + n, x.work(0, 0, 0), n);
            dueText("bytes in turn", rawOf(x, 0), "abcde".substring(0, n));
        }
    }

    private static void feedBytes() {
        for (int at = 0; at < 5; at++) {
            for (int v : new int[] {-1, 256, LEAST_INT, MOST_INT, 0, 255}) {
                int[] row = {7, 7, 7, 7, 7};
                row[at] = v;
                boolean good = v >= 0 && v <= 255;
                for (int n = 1; n <= 5; n++) {
                    HandedWorks x = new HandedWorks();
                    due("byte " + at + " of " + n + " is " + v, x.feed(n, row[0], row[1], row[2], row[3], row[4]), good ? n : -2);
                    due("so many came", x.count(5), good ? n : 0);
                }
            }
        }
    }

    private static void feedTape() {
        HandedWorks x = new HandedWorks();
        for (int n = 5; n <= 50; n += 5) {
            due("feed to " + n, x.feed(5, 'a', 'b', 'c', 'd', 'e'), n);
        }
        due("work of fifty", x.work(0, 0, 0), 50);
        dueText("all of them, in turn", rawOf(x, 0), "abcdeabcdeabcdeabcdeabcdeabcdeabcdeabcdeabcdeabcde");
    }

    private static void feedFull() {
        HandedWorks x = new HandedWorks();
        tape(x, FIFTY.substring(0, 48));
        due("three have no room", x.feed(3, 'y', 'y', 'y', 'y', 'y'), -4);
        due("none of them came", x.count(5), 48);
        due("bad is told first", x.feed(3, 'y', 'y', 'y', 'y', 256), -2);
        due("bad n is told first", x.feed(6, 'y', 'y', 'y', 'y', 'y'), -2);
        due("two have", x.feed(2, 'w', 'x', 'y', 'y', 'y'), 50);
        due("one has none", x.feed(1, 'y', 0, 0, 0, 0), -4);
        due("work", x.work(0, 0, 0), 50);
        dueText("bytes", rawOf(x, 0), FIFTY);
        due("room again", x.feed(1, 'y', 0, 0, 0, 0), 1);
    }

    private static void workEmptiesTape() {
        HandedWorks x = new HandedWorks();
        tape(x, "abc");
        due("work", x.work(0, 0, 0), 3);
        due("tape", x.count(5), 0);
        due("nothing is left for another", x.work(1, 0, 0), -3);
        x.feed(1, 'A', 0, 0, 0, 0);
        due("a fault", x.work(0, 0, 0), -3);
        due("tape then", x.count(5), 0);
        tape(x, "b");
        due("what came behind the fault", x.work(1, 0, 0), 1);
    }

    private static void workAnotherGoes() {
        HandedWorks x = new HandedWorks();
        hand(x, 2, 3, 77, "abcdef");
        hand(x, 2, 1, 5, "xy");
        dueText("raw", rawOf(x, 2), "xy");
        due("behind its end", x.raw(2, 2), -12);
        due("kind", x.alter(2, 0, 0), 1);
        due("day", x.alter(2, 1, 0), 5);
        due("works", x.count(0), 1);
        due("bytes of all", x.count(1), 2);
    }

    private static void workBad() {
        HandedWorks x = handed("xyz");
        due("bad before a tape that is none", x.work(5, 0, 0), -2);
        tape(x, "abc");
        int[][] bad = {{-1, 0, 0}, {5, 0, 0}, {0, -1, 0}, {0, 6, 0}, {0, 0, -1}, {0, 0, 100}};
        for (int[] b : bad) {
            due("bad", x.work(b[0], b[1], b[2]), -2);
            due("tape stays", x.count(5), 3);
            dueText("work as it was", rawOf(x, 0), "xyz");
        }
        due("then", x.work(0, 5, 99), 3);
        dueText("the tape", rawOf(x, 0), "abc");
        x.feed(2, 'a', 0, 0, 0, 0);
        due("bad before a byte that is none", x.work(0, 6, 0), -2);
        due("tape stays then", x.count(5), 2);
    }

    private static void workState() {
        HandedWorks x = new HandedWorks();
        hand(x, 1, 4, 8, "ab\n");
        due("nothing on the tape", x.work(1, 0, 0), -3);
        x.feed(3, 'a', 'b', 'Z', 0, 0);
        due("a byte that is none", x.work(1, 0, 0), -3);
        due("tape", x.count(5), 0);
        dueText("raw as it was", rawOf(x, 1), "ab\n");
        due("kind as it was", x.alter(1, 0, 4), 4);
        due("day as it was", x.alter(1, 1, 8), 8);
        x.feed(1, 255, 0, 0, 0, 0);
        due("of a missing one", x.work(3, 0, 0), -3);
        due("still missing", x.raw(3, -1), -11);
    }

    private static void spliceFrom() {
        HandedWorks x = handed("ab", "12345");
        due("from the first", x.splice(0, 2, 1, 0, 1), 3);
        due("from the last", x.splice(0, 3, 1, 4, 1), 4);
        due("from the middle", x.splice(0, 4, 1, 1, 3), 7);
        due("all", x.splice(0, 7, 1, 0, 5), 12);
        dueText("raw", rawOf(x, 0), "ab1523412345");
        dueText("the other as it was", rawOf(x, 1), "12345");
        HandedWorks y = handed("z", FIFTY.substring(0, 45), FIFTY);
        due("to a full one", y.splice(1, 3, 2, 45, 5), 50);
        dueText("a full one", rawOf(y, 1), "abctuvwx" + FIFTY.substring(3, 45));
        dueText("the one ahead as it was", rawOf(y, 0), "z");
        dueText("the one behind as it was", rawOf(y, 2), FIFTY);
        due("kind of the other", x.alter(1, 0, 2), 0);
        due("of another kind", x.splice(0, 0, 1, 0, 1), 13);
        due("its kind stays", x.alter(0, 0, 0), 0);
    }

    private static void spliceAt() {
        HandedWorks x = handed("abc", "12");
        due("ahead of all", x.splice(0, 0, 1, 0, 1), 4);
        dueText("ahead of all", rawOf(x, 0), "1abc");
        due("behind it all", x.splice(0, 4, 1, 1, 1), 5);
        dueText("behind it all", rawOf(x, 0), "1abc2");
        due("ahead of the last", x.splice(0, 4, 1, 0, 2), 7);
        dueText("ahead of the last", rawOf(x, 0), "1abc122");
        due("behind the end", x.splice(0, 8, 1, 0, 1), -12);
        due("ahead of the start", x.splice(0, -1, 1, 0, 1), -12);
    }

    private static void spliceItself() {
        HandedWorks x = handed("abcd");
        due("over its place", x.splice(0, 2, 0, 1, 3), 7);
        dueText("over its place", rawOf(x, 0), "abbcdcd");
        x = handed("abcd");
        due("all, ahead", x.splice(0, 0, 0, 0, 4), 8);
        dueText("all, ahead", rawOf(x, 0), "abcdabcd");
        x = handed("abcd");
        due("all, behind", x.splice(0, 4, 0, 0, 4), 8);
        due("all, in it", x.splice(0, 1, 0, 0, 8), 16);
        dueText("all, in it", rawOf(x, 0), "aabcdabcdbcdabcd");
        x = handed("abcd");
        due("what is behind, ahead", x.splice(0, 0, 0, 2, 2), 6);
        dueText("what is behind, ahead", rawOf(x, 0), "cdabcd");
    }

    private static void spliceMissing() {
        HandedWorks x = handed("abc");
        due("the one", x.splice(1, 0, 0, 0, 1), -11);
        due("the other", x.splice(0, 0, 1, 0, 1), -11);
        due("both", x.splice(1, 0, 2, 0, 1), -11);
        due("itself", x.splice(1, 0, 1, 0, 1), -11);
        due("bad is told first", x.splice(1, 0, 5, 0, 1), -2);
        due("bad is told first, the one", x.splice(-1, 0, 1, 0, 1), -2);
        due("missing before outside", x.splice(1, -1, 0, 9, 0), -11);
        due("other missing before outside", x.splice(0, -1, 1, 9, 0), -11);
    }

    private static void spliceOutside() {
        HandedWorks x = handed("abc", "12345");
        int[][] rows = {
            {-1, 0, 1}, {4, 0, 1}, {LEAST_INT, 0, 1}, {MOST_INT, 0, 1}, {0, -1, 1}, {0, 5, 1}, {0, 4, 2}, {0, 0, 6}, {0, 0, 0},
            {0, 0, -1}, {0, 5, 0}, {0, 0, LEAST_INT}, {0, 0, MOST_INT}, {0, 1, MOST_INT}, {0, MOST_INT, MOST_INT},
            {0, LEAST_INT, MOST_INT}, {0, LEAST_INT, LEAST_INT}, {0, MOST_INT, 1}};
        for (int[] r : rows) {
            due("splice at " + r[0] + " from " + r[1] + " n " + r[2], x.splice(0, r[0], 1, r[1], r[2]), -12);
        }
        dueText("as it was", rawOf(x, 0), "abc");
        due("to the last", x.splice(0, 3, 1, 3, 2), 5);
    }

    private static void spliceFull() {
        HandedWorks x = handed(FIFTY.substring(0, 40), "1234567890z");
        due("eleven have no room", x.splice(0, 0, 1, 0, 11), -4);
        due("outside is told first", x.splice(0, 41, 1, 0, 11), -12);
        due("as it was", x.raw(0, -1), 40);
        due("ten have", x.splice(0, 40, 1, 0, 10), 50);
        dueText("fifty", rawOf(x, 0), FIFTY.substring(0, 40) + "1234567890");
        dueText("the next work as it was", rawOf(x, 1), "1234567890z");
        due("one has none", x.splice(0, 50, 1, 0, 1), -4);
        due("itself has none", x.splice(0, 0, 0, 0, 50), -4);
        hand(x, 4, 0, 0, FIFTY.substring(0, 49));
        due("the last work has just room", x.splice(4, 1, 1, 0, 1), 50);
        dueText("the last work", rawOf(x, 4), "a1" + FIFTY.substring(1, 49));
        HandedWorks y = handed(FIFTY.substring(0, 25));
        due("itself has just room", y.splice(0, 25, 0, 0, 25), 50);
    }

    private static void cutGoes() {
        HandedWorks x = handed("abcdef");
        due("the first", x.cut(0, 0, 1), 5);
        due("the last", x.cut(0, 4, 1), 4);
        due("of the middle", x.cut(0, 1, 2), 2);
        dueText("what stays", rawOf(x, 0), "be");
        due("all but the first", x.cut(0, 1, 1), 1);
        dueText("the first stays", rawOf(x, 0), "b");
        due("behind its end", x.raw(0, 1), -12);
        HandedWorks y = handed("z", FIFTY, FIFTY);
        due("of a full one", y.cut(1, 5, 40), 10);
        dueText("what stays of it", rawOf(y, 1), "abcdetuvwx");
        due("its first ones", y.cut(1, 0, 9), 1);
        dueText("its last stays", rawOf(y, 1), "x");
        dueText("the one ahead as it was", rawOf(y, 0), "z");
        dueText("the one behind as it was", rawOf(y, 2), FIFTY);
        due("of another full one", y.cut(2, 1, 10), 40);
        hand(y, 4, 0, 0, FIFTY);
        due("of the last work, full", y.cut(4, 1, 49), 1);
        dueText("its first stays", rawOf(y, 4), "a");
        dueText("the one ahead stays", rawOf(y, 1), "x");
    }

    private static void cutMissing() {
        HandedWorks x = handed("abc");
        due("bad", x.cut(5, 0, 1), -2);
        due("bad -1", x.cut(-1, 0, 1), -2);
        due("missing", x.cut(4, 0, 1), -11);
        due("missing before outside", x.cut(4, -1, 0), -11);
    }

    private static void cutOutside() {
        HandedWorks x = handed("abcd");
        int[][] rows = {
            {-1, 1}, {4, 1}, {3, 2}, {0, 5}, {1, 4}, {0, 0}, {0, -1}, {4, 0}, {0, LEAST_INT}, {0, MOST_INT}, {1, MOST_INT},
            {MOST_INT, MOST_INT}, {MOST_INT, 1}, {LEAST_INT, 1}, {LEAST_INT, MOST_INT}, {LEAST_INT, LEAST_INT}, {-1, 4}};
        for (int[] r : rows) {
            due("cut at " + r[0] + " n " + r[1], x.cut(0, r[0], r[1]), -12);
        }
        dueText("as it was", rawOf(x, 0), "abcd");
        due("to the last", x.cut(0, 1, 3), 1);
    }

    private static void cutAll() {
        HandedWorks x = handed("abcd", "z");
        due("all", x.cut(0, 0, 4), -3);
        dueText("as it was", rawOf(x, 0), "abcd");
        due("one more is outside", x.cut(0, 0, 5), -12);
        due("all but one", x.cut(0, 0, 3), 1);
        dueText("the last", rawOf(x, 0), "d");
        due("the only one", x.cut(1, 0, 1), -3);
        due("is there", x.raw(1, -1), 1);
    }

    private static void dropMissing() {
        HandedWorks x = handed("abc", FIFTY, "q");
        due("drop", x.drop(1), 50);
        due("is missing", x.raw(1, -1), -11);
        due("the others are there", x.count(0), 2);
        due("one byte", x.drop(2), 1);
        due("the last", x.drop(0), 3);
        due("none", x.count(0), 0);
        hand(x, 1, 2, 3, "new");
        due("there again", x.raw(1, -1), 3);
    }

    private static void dropRefused() {
        HandedWorks x = handed("abc");
        due("bad", x.drop(5), -2);
        due("bad -1", x.drop(-1), -2);
        due("missing", x.drop(1), -11);
        due("drop", x.drop(0), 3);
        due("once more", x.drop(0), -11);
    }

    private static void alterBecomes() {
        HandedWorks x = new HandedWorks();
        hand(x, 0, 1, 2, "a\"b\"");
        due("kind", x.alter(0, 0, 0), 1);
        dueText("letters then", lettersOf(x, 0), "ab");
        due("kind again", x.alter(0, 0, 5), 0);
        due("day", x.alter(0, 1, 99), 2);
        due("day again", x.alter(0, 1, 0), 99);
        due("the kind stays", x.alter(0, 0, 4), 5);
        due("the day stays", x.alter(0, 1, 1), 0);
        dueText("raw stays", rawOf(x, 0), "a\"b\"");
    }

    private static void alterRefused() {
        HandedWorks x = new HandedWorks();
        hand(x, 0, 5, 50, "a");
        int[][] bad = {{0, 2, 0}, {0, -1, 0}, {0, 0, 6}, {0, 0, -1}, {0, 1, 100}, {0, 1, -1}, {5, 0, 0}, {-1, 1, 0}, {3, 2, 0},
            {3, 0, 6}, {3, 1, 100}, {0, MOST_INT, 0}, {0, LEAST_INT, 0}};
        for (int[] b : bad) {
            due("alter " + b[0] + " " + b[1] + " " + b[2], x.alter(b[0], b[1], b[2]), -2);
        }
        due("missing, kind", x.alter(3, 0, 5), -11);
        due("missing, day", x.alter(3, 1, 99), -11);
        due("a day of 6 and more is none for a kind", x.alter(0, 1, 6), 50);
        due("kind as it was", x.alter(0, 0, 0), 5);
    }

    private static void rawByte() {
        HandedWorks x = handed("a\n\" 9");
        int[] due = {5, 'a', 10, 34, 32, '9'};
        for (int i = -1; i < 5; i++) {
            due("raw " + i, x.raw(0, i), due[i + 1]);
        }
    }

    private static void rawRefused() {
        HandedWorks x = handed("abc");
        for (int i : new int[] {3, -2, LEAST_INT, MOST_INT, 50}) {
            due("raw " + i, x.raw(0, i), -12);
            due("bad before outside", x.raw(5, i), -2);
            due("missing before outside", x.raw(1, i), -11);
        }
        due("bad -1", x.raw(-1, -1), -2);
        x.cut(0, 1, 2);
        due("behind the end then", x.raw(0, 1), -12);
    }

    private static void letterCount() {
        HandedWorks x = ofKind(0, "a1b c");
        due("how many", x.letter(0, -1, 0), 3);
        due("how many, too", x.letter(0, -1, 1), 3);
        due("what 2", x.letter(0, -1, 2), -2);
        due("what -1", x.letter(0, -1, -1), -2);
        due("what far", x.letter(0, -1, MOST_INT), -2);
        hand(x, 1, 0, 0, "12");
        due("none", x.letter(1, -1, 0), 0);
        hand(x, 2, 0, 0, FIFTY);
        due("fifty", x.letter(2, -1, 0), 50);
    }

    private static void letterTold() {
        HandedWorks x = ofKind(3, " a1 bc");
        int[][] due = {{'v', 1}, {'#', 2}, {'b', 4}, {'c', 5}};
        for (int i = 0; i < 4; i++) {
            due("letter " + i, x.letter(0, i, 0), due[i][0]);
            due("place " + i, x.letter(0, i, 1), due[i][1]);
        }
        hand(x, 1, 4, 0, "\n");
        due("line end", x.letter(1, 0, 0), '/');
    }

    private static void letterRefused() {
        HandedWorks x = ofKind(0, "a1b2");
        for (int i : new int[] {2, 3, 4, -2, LEAST_INT, MOST_INT}) {
            due("letter " + i, x.letter(0, i, 0), -12);
            due("place " + i, x.letter(0, i, 1), -12);
            due("bad before outside " + i, x.letter(0, i, 2), -2);
            due("missing before outside " + i, x.letter(1, i, 0), -11);
        }
        due("bad before missing", x.letter(1, 0, 2), -2);
        due("bad work", x.letter(5, 0, 0), -2);
    }

    private static void takenKinds() {
        boolean[][] isOf = new boolean[6][6];
        int[][] lines = {{0}, {1, 0}, {2, 0}, {3, 2, 0}, {4, 1, 0}, {5, 1, 0}};
        for (int kind = 0; kind < 6; kind++) {
            for (int k : lines[kind]) {
                isOf[kind][k] = true;
            }
        }
        for (int kind = 0; kind < 6; kind++) {
            HandedWorks x = ofKind(kind, "ab");
            for (int k = 0; k < 6; k++) {
                due("kind " + kind + " for " + k, x.taken(0, k), isOf[kind][k] ? 0 : -13);
            }
        }
    }

    private static void takenUnlike() {
        due("v for a", ofKind(3, "a").taken(0, 0), 1);
        due("v for v", ofKind(3, "v").taken(0, 0), 0);
        due("two of three", ofKind(3, "a v b cd").taken(0, 2), 2);
        due("quoted and loose are alike", ofKind(5, "aab\"c\"").taken(0, 1), 0);
        due("plain", ofKind(0, "a 1\"b\"").taken(0, 0), 0);
        due("no letters", ofKind(2, " ").taken(0, 0), 0);
    }

    private static void takenNotThere() {
        due("digits", ofKind(2, "12a3 4").taken(0, 0), 3);
        due("line ends", ofKind(4, "\na\n\"\n").taken(0, 1), 3);
        due("digits and v's", ofKind(3, "1a2v").taken(0, 3), 3);
    }

    private static void takenRefused() {
        HandedWorks x = ofKind(1, "ab");
        for (int k : new int[] {-1, 6, LEAST_INT, MOST_INT}) {
            due("no kind " + k, x.taken(0, k), -2);
            due("bad before missing " + k, x.taken(1, k), -2);
        }
        due("bad work", x.taken(5, 0), -2);
        for (int k = 0; k < 6; k++) {
            due("missing before unlike " + k, x.taken(1, k), -11);
        }
        due("below its own", x.taken(0, 4), -13);
        due("beside its own", x.taken(0, 2), -13);
    }
}
