/** Each promise by hand: ordinary calls, the edges that the document names, wrong numbers. */
public final class PromisesTest extends Asking {
    private static void newObject() {
        HandedWorks x = new HandedWorks();
        for (int what = 0; what < 6; what++) {
            due("new: count " + what, x.count(what), 0);
        }
        for (int w = 0; w < 5; w++) {
            due("new: raw", x.raw(w, -1), -11);
        }
        int[] first = {3, 2, 6, -1, 4, 50};
        for (int what = 0; what < 6; what++) {
            due("new: rule " + what, x.rule(what, first[what]), first[what]);
        }
        for (int s = 0; s < 4; s++) {
            due("new: put", x.put(s, 0, 0), -11);
        }
        due("new: back", x.back(), -3);
    }

    private static void feed() {
        HandedWorks x = new HandedWorks();
        due("feed 1", x.feed(1, 'a', 0, 0, 0, 0), 1);
        due("feed 2", x.feed(2, 'b', 'c', 0, 0, 0), 3);
        due("feed 3", x.feed(3, 'd', 'e', 'f', 0, 0), 6);
        due("feed 4", x.feed(4, 'g', 'h', 'i', 'j', 0), 10);
        due("feed 5", x.feed(5, 'k', 'l', 'm', 'n', 'o'), 15);
        due("feed 0", x.feed(0, 1, 1, 1, 1, 1), -2);
        due("feed 6", x.feed(6, 1, 1, 1, 1, 1), -2);
        due("feed least", x.feed(LEAST_INT, 1, 1, 1, 1, 1), -2);
        for (int bad : new int[] {-1, 256, LEAST_INT, MOST_INT}) {
            due("feed bad a", x.feed(1, bad, 0, 0, 0, 0), -2);
            due("feed bad b", x.feed(1, 'a', bad, 0, 0, 0), -2);
            due("feed bad c", x.feed(1, 'a', 0, bad, 0, 0), -2);
            due("feed bad d", x.feed(1, 'a', 0, 0, bad, 0), -2);
            due("feed bad e", x.feed(1, 'a', 0, 0, 0, bad), -2);
        }
        due("feed: nothing came", x.count(5), 15);
        due("feed: work", x.work(0, 0, 0), 15);
        dueText("feed: raw", rawOf(x, 0), "abcdefghijklmno");
        due("feed 255", x.feed(5, 255, 0, 255, 0, 255), 5);
        for (int n = 10; n <= 45; n += 5) {
            due("feed on", x.feed(5, 1, 1, 1, 1, 1), n);
        }
        due("feed 48", x.feed(3, 1, 1, 1, 1, 1), 48);
        due("feed full", x.feed(3, 1, 1, 1, 1, 1), -4);
        due("feed bad before full", x.feed(3, 1, 1, 1, 1, 256), -2);
        due("feed 50", x.feed(2, 1, 1, 1, 1, 1), 50);
        due("feed full by one", x.feed(1, 1, 1, 1, 1, 1), -4);
    }

    private static void work() {
        HandedWorks x = new HandedWorks();
        due("work of none", x.work(0, 0, 0), -3);
        tape(x, "az09 \n\"");
        due("work 5", x.work(5, 0, 0), -2);
        due("work -1", x.work(-1, 0, 0), -2);
        due("work kind", x.work(0, 6, 0), -2);
        due("work kind -1", x.work(0, -1, 0), -2);
        due("work day", x.work(0, 0, 100), -2);
        due("work day -1", x.work(0, 0, -1), -2);
        due("work: tape stays", x.count(5), 7);
        due("work: none came", x.count(0), 0);
        due("work", x.work(4, 5, 99), 7);
        due("work: tape went", x.count(5), 0);
        dueText("work raw", rawOf(x, 4), "az09 \n\"");
        due("work kind", x.alter(4, 0, 5), 5);
        due("work day", x.alter(4, 1, 99), 99);
        for (int c : new int[] {'a' - 1, 'z' + 1, '0' - 1, '9' + 1, 9, 11, 31, 33, 35, 'A', 0, 255}) {
            due("work byte: feed", x.feed(2, 'a', c, 0, 0, 0), 2);
            due("work byte " + c, x.work(4, 0, 0), -3);
            due("work byte: tape", x.count(5), 0);
            due("work byte: as it was", x.raw(4, -1), 7);
            due("work byte: as it was", x.alter(4, 0, 5), 5);
        }
        hand(x, 4, 1, 2, "b");
        dueText("another goes", rawOf(x, 4), "b");
        due("another kind", x.alter(4, 0, 1), 1);
        due("another day", x.alter(4, 1, 2), 2);
        hand(x, 0, 0, 0, "abcdefghijklmnopqrstuvwxyzabcdefghijklmnopqrstuvwx");
    }

    private static void splice() {
        HandedWorks x = new HandedWorks();
        hand(x, 0, 0, 0, "abcdef");
        hand(x, 1, 0, 0, "12345");
        due("splice", x.splice(0, 2, 1, 1, 3), 9);
        dueText("splice", rawOf(x, 0), "ab234cdef");
        due("splice ahead", x.splice(0, 0, 1, 4, 1), 10);
        due("splice behind", x.splice(0, 10, 1, 0, 1), 11);
        dueText("splice ends", rawOf(x, 0), "5ab234cdef1");
        due("splice itself", x.splice(1, 2, 1, 1, 4), 9);
        dueText("splice itself", rawOf(x, 1), "122345345");
        due("splice no work", x.splice(5, 0, 0, 0, 1), -2);
        due("splice no other", x.splice(0, 0, -1, 0, 1), -2);
        due("splice missing", x.splice(2, 0, 0, 0, 1), -11);
        due("splice other missing", x.splice(0, 0, 2, 0, 1), -11);
        due("splice missing before outside", x.splice(0, 99, 2, 0, 1), -11);
        due("splice at", x.splice(0, 12, 1, 0, 1), -12);
        due("splice at -1", x.splice(0, -1, 1, 0, 1), -12);
        due("splice from -1", x.splice(0, 0, 1, -1, 1), -12);
        due("splice from", x.splice(0, 0, 1, 9, 1), -12);
        due("splice n", x.splice(0, 0, 1, 8, 2), -12);
        due("splice n 0", x.splice(0, 0, 1, 0, 0), -12);
        due("splice n -1", x.splice(0, 0, 1, 0, -1), -12);
        due("splice far", x.splice(0, 0, 1, MOST_INT, MOST_INT), -12);
        due("splice low", x.splice(0, 0, 1, LEAST_INT, MOST_INT), -12);
        due("splice n far", x.splice(0, 0, 1, 1, MOST_INT), -12);
        hand(x, 2, 0, 0, "aaaaaaaaaabbbbbbbbbbccccccccccdddddddddd");
        due("splice full", x.splice(0, 0, 2, 0, 40), -4);
        due("splice outside before full", x.splice(0, 12, 2, 0, 40), -12);
        due("splice to the full", x.splice(0, 11, 2, 1, 39), 50);
        due("splice full by one", x.splice(0, 0, 0, 0, 1), -4);
        dueText("splice full", rawOf(x, 0), "5ab234cdef1aaaaaaaaabbbbbbbbbbccccccccccdddddddddd");
    }

    private static void cut() {
        HandedWorks x = new HandedWorks();
        hand(x, 0, 2, 7, "abcdef");
        due("cut", x.cut(0, 1, 2), 4);
        dueText("cut", rawOf(x, 0), "adef");
        due("cut end", x.cut(0, 3, 1), 3);
        due("cut start", x.cut(0, 0, 1), 2);
        dueText("cut ends", rawOf(x, 0), "de");
        due("cut no work", x.cut(5, 0, 1), -2);
        due("cut missing", x.cut(1, 0, 1), -11);
        due("cut missing before outside", x.cut(1, -1, 0), -11);
        due("cut 0", x.cut(0, 0, 0), -12);
        due("cut -1", x.cut(0, 0, -1), -12);
        due("cut at -1", x.cut(0, -1, 1), -12);
        due("cut at", x.cut(0, 2, 1), -12);
        due("cut n", x.cut(0, 1, 2), -12);
        due("cut n 3", x.cut(0, 0, 3), -12);
        due("cut far", x.cut(0, MOST_INT, MOST_INT), -12);
        due("cut far n", x.cut(0, 1, MOST_INT), -12);
        due("cut all", x.cut(0, 0, 2), -3);
        dueText("cut none", rawOf(x, 0), "de");
        due("cut kind", x.alter(0, 0, 2), 2);
        due("cut day", x.alter(0, 1, 7), 7);
    }

    private static void drop() {
        HandedWorks x = new HandedWorks();
        hand(x, 3, 0, 0, "abc");
        due("drop -1", x.drop(-1), -2);
        due("drop 5", x.drop(5), -2);
        due("drop missing", x.drop(2), -11);
        due("drop", x.drop(3), 3);
        due("drop again", x.drop(3), -11);
        due("drop: raw", x.raw(3, -1), -11);
        due("drop: count", x.count(0), 0);
    }

    private static void alter() {
        HandedWorks x = new HandedWorks();
        hand(x, 1, 0, 3, "ab\"cd");
        due("alter kind", x.alter(1, 0, 5), 0);
        due("alter letters", x.letter(1, -1, 0), 2);
        due("alter day", x.alter(1, 1, 99), 3);
        due("alter day again", x.alter(1, 1, 0), 99);
        due("alter kind again", x.alter(1, 0, 1), 5);
        due("alter no work", x.alter(5, 0, 0), -2);
        due("alter what", x.alter(1, 2, 0), -2);
        due("alter what -1", x.alter(1, -1, 0), -2);
        due("alter kind 6", x.alter(1, 0, 6), -2);
        due("alter kind -1", x.alter(1, 0, -1), -2);
        due("alter day 100", x.alter(1, 1, 100), -2);
        due("alter day -1", x.alter(1, 1, -1), -2);
        due("alter day 6", x.alter(1, 1, 6), 0);
        due("alter bad before missing", x.alter(0, 0, 6), -2);
        due("alter missing", x.alter(0, 0, 0), -11);
        due("alter: as it was", x.alter(1, 0, 0), 1);
    }

    private static void raw() {
        HandedWorks x = new HandedWorks();
        hand(x, 2, 1, 0, "a\n 1");
        due("raw -1", x.raw(2, -1), 4);
        due("raw 0", x.raw(2, 0), 'a');
        due("raw 1", x.raw(2, 1), 10);
        due("raw 3", x.raw(2, 3), '1');
        due("raw 4", x.raw(2, 4), -12);
        due("raw -2", x.raw(2, -2), -12);
        due("raw far", x.raw(2, MOST_INT), -12);
        due("raw low", x.raw(2, LEAST_INT), -12);
        due("raw work", x.raw(5, 0), -2);
        due("raw work -1", x.raw(-1, 0), -2);
        due("raw missing", x.raw(1, -1), -11);
    }

    private static void letter() {
        HandedWorks x = new HandedWorks();
        hand(x, 0, 0, 0, "ab1 2\n\"aa\"b11a\n z\"3z\nq");
        String[] kinds = {"abaabazzq", "abbaz", "ab##aab#az#zq", "ab##aav#vv#vv", "ab/ba/z/", "abbaz"};
        for (int kind = 0; kind < 6; kind++) {
            x.alter(0, 0, kind);
            dueText("letters of kind " + kind, lettersOf(x, 0), kinds[kind]);
        }
        hand(x, 1, 5, 0, "aab bbaa a\"aa\"aab");
        dueText("loose", lettersOf(x, 1), "abbaaab");
        int[] places = {0, 2, 4, 6, 9, 14, 16};
        for (int i = 0; i < places.length; i++) {
            due("loose place " + i, x.letter(1, i, 1), places[i]);
        }
        hand(x, 2, 3, 0, "a ab\"a\"1a2b34");
        dueText("renamed", lettersOf(x, 2), "vabv#v#v#");
        due("letter what 0", x.letter(2, 0, 0), 'v');
        due("letter what 1", x.letter(2, 8, 1), 11);
        due("letter outside", x.letter(2, 9, 0), -12);
        due("letter -2", x.letter(2, -2, 0), -12);
        due("letter far", x.letter(2, MOST_INT, 1), -12);
        due("letter what 2", x.letter(2, -1, 2), -2);
        due("letter what -1", x.letter(2, 0, -1), -2);
        due("letter work", x.letter(5, -1, 0), -2);
        due("letter bad before missing", x.letter(3, -1, 2), -2);
        due("letter missing", x.letter(3, -1, 0), -11);
        hand(x, 3, 0, 0, "1 2\n\"");
        due("letter none", x.letter(3, -1, 0), 0);
        due("letter none 0", x.letter(3, 0, 0), -12);
    }

    private static void taken() {
        HandedWorks x = new HandedWorks();
        hand(x, 0, 0, 0, "a b cd 12 v\n\"e\nf");
        int[][] due = {
            {0, -13, -13, -13, -13, -13}, {0, 0, -13, -13, -13, -13}, {1, -13, 1, -13, -13, -13},
            {5, -13, 5, 5, -13, -13}, {2, 2, -13, -13, 2, -13}, {0, 0, -13, -13, -13, 0}};
        for (int kind = 0; kind < 6; kind++) {
            x.alter(0, 0, kind);
            for (int k = 0; k < 6; k++) {
                due("taken " + kind + " for " + k, x.taken(0, k), due[kind][k]);
            }
        }
        due("taken 6", x.taken(0, 6), -2);
        due("taken -1", x.taken(0, -1), -2);
        due("taken work", x.taken(-1, 0), -2);
        due("taken bad before missing", x.taken(1, 6), -2);
        due("taken missing", x.taken(1, 0), -11);
    }

    private static void rule() {
        HandedWorks x = new HandedWorks();
        int[] first = {3, 2, 6, -1, 4, 50};
        int[] least = {2, 1, 2, -1, 1, 0};
        int[] most = {6, 6, 6, 4, 50, 100};
        for (int what = 0; what < 6; what++) {
            due("rule least", x.rule(what, least[what]), first[what]);
            due("rule below", x.rule(what, least[what] - 1), -2);
            due("rule above", x.rule(what, most[what] + 1), -2);
            due("rule far", x.rule(what, MOST_INT), -2);
            due("rule most", x.rule(what, most[what]), least[what]);
            due("rule again", x.rule(what, first[what]), most[what]);
        }
        due("rule 6", x.rule(6, 3), -2);
        due("rule -1", x.rule(-1, 3), -2);
    }

    private static void mark() {
        HandedWorks x = new HandedWorks();
        hand(x, 0, 0, 0, "ab cd1e");
        due("mark 0", x.mark(0, 0), (97 * 31 + 98) * 31 + 99);
        due("mark 2", x.mark(0, 2), (99 * 31 + 100) * 31 + 101);
        due("mark 3", x.mark(0, 3), NO);
        due("mark -1", x.mark(0, -1), NO);
        due("mark far", x.mark(0, MOST_INT), NO);
        due("mark work", x.mark(5, 0), NO);
        due("mark missing", x.mark(1, 0), NO);
        hand(x, 1, 2, 0, "zzzzzz1");
        x.rule(0, 6);
        due("mark wraps", x.mark(1, 0), (int) (122L * (28629151L + 923521L + 29791L + 961L + 31L + 1L)));
        due("mark of #", x.mark(1, 1), (int) (122L * (28629151L + 923521L + 29791L + 961L + 31L) + 35));
        due("mark none", x.mark(0, 0), NO);
        x.rule(0, 2);
        due("mark by 2", x.mark(0, 3), 100 * 31 + 101);
        hand(x, 2, 0, 0, "a");
        due("mark of one", x.mark(2, 0), NO);
    }

    private static void print() {
        HandedWorks x = new HandedWorks();
        x.rule(0, 2);
        // grams ab bc ca ab ba ad: marks grow as the letters do; of like ones a window picks the last
        hand(x, 0, 0, 0, "abcabad");
        dueText("prints by 2", printsOf(x, 0), "0 1 3 5");
        x.rule(1, 1);
        dueText("prints by 1", printsOf(x, 0), "0 1 2 3 4 5");
        x.rule(1, 4);
        dueText("prints by 4", printsOf(x, 0), "3");
        x.rule(1, 6);
        dueText("prints by 6", printsOf(x, 0), "3");
        x.rule(0, 3);
        dueText("prints of fewer", printsOf(x, 0), "3");
        hand(x, 1, 0, 0, "aba");
        dueText("prints of one gram", printsOf(x, 1), "0");
        due("print gram", x.print(0, 0, 0), 3);
        due("print works", x.print(0, 0, 1), 2);
        due("print common", x.print(0, 0, 2), 0);
        x.rule(2, 2);
        due("print common by two", x.print(0, 0, 2), 1);
        x.rule(2, 3);
        x.rule(3, 1);
        due("print common by base", x.print(0, 0, 2), 1);
        x.rule(3, 4);
        due("print base missing", x.print(0, 0, 2), 0);
        hand(x, 2, 0, 0, "ab");
        due("prints none", x.print(2, -1, 0), 0);
        due("prints none 0", x.print(2, 0, 0), -12);
        due("print 1", x.print(0, 1, 0), -12);
        due("print -2", x.print(0, -2, 0), -12);
        due("print what", x.print(0, -1, 3), -2);
        due("print what -1", x.print(0, -1, -1), -2);
        due("print work", x.print(5, -1, 0), -2);
        due("print bad before missing", x.print(3, 0, 3), -2);
        due("print missing", x.print(3, -1, 0), -11);
        // marks are ints: 6 letters wrap below 0, so the gram of z's is less than that of a's
        x.rule(0, 6);
        x.rule(1, 2);
        hand(x, 3, 0, 0, "aaaaaaz");
        due("mark a's", x.mark(3, 0), (int) (97L * 29583456L));
        due("mark a's below 0", x.mark(3, 0) < 0 ? 1 : 0, 1);
        dueText("prints of wrapped marks", printsOf(x, 3), "0");
    }

    private static void common() {
        HandedWorks x = new HandedWorks();
        x.rule(0, 2);
        hand(x, 0, 0, 0, "abcab");
        hand(x, 1, 0, 0, "xabab");
        hand(x, 2, 0, 0, "bc");
        due("common none", x.common(0, 0), 0);
        x.rule(2, 2);
        due("common", x.common(0, 0), 3);
        due("common prints", x.common(0, 1), 3);
        x.rule(1, 3);
        due("common prints by 3", x.common(0, 1), 2);
        due("common 1", x.common(1, 0), 2);
        x.rule(2, 3);
        due("common by three", x.common(0, 0), 0);
        x.rule(3, 2);
        due("common by base", x.common(0, 0), 1);
        due("common of base itself", x.common(2, 0), 1);
        x.rule(3, 0);
        due("common base all", x.common(0, 0), 4);
        x.rule(3, 4);
        due("common base missing", x.common(0, 0), 0);
        due("common what", x.common(0, 2), -2);
        due("common what -1", x.common(0, -1), -2);
        due("common work", x.common(5, 0), -2);
        due("common bad before missing", x.common(3, 2), -2);
        due("common missing", x.common(3, 0), -11);
        x.rule(2, 2);
        x.drop(1);
        due("common by those there", x.common(0, 0), 1);
    }

    private static void match() {
        HandedWorks x = new HandedWorks();
        hand(x, 0, 0, 0, "abcdefg hijkl");
        hand(x, 1, 0, 0, "hijklabcdef");
        dueText("matches", matchesOf(x, 0, 1), "0-5x6* 7-0x5");
        dueText("matches back", matchesOf(x, 1, 0), "0-7x5 5-0x6*");
        x.rule(4, 6);
        dueText("matches by 6", matchesOf(x, 0, 1), "0-5x6*");
        x.rule(4, 7);
        dueText("matches by 7", matchesOf(x, 0, 1), "");
        x.rule(4, 1);
        due("match 2", x.match(0, 1, 2, 0), -12);
        due("match -2", x.match(0, 1, -2, 0), -12);
        due("match far", x.match(0, 1, MOST_INT, 0), -12);
        due("match what", x.match(0, 1, -1, 4), -2);
        due("match what -1", x.match(0, 1, -1, -1), -2);
        due("match same", x.match(0, 0, -1, 0), -2);
        due("match work", x.match(5, 0, -1, 0), -2);
        due("match other", x.match(0, 5, -1, 0), -2);
        due("match same missing", x.match(2, 2, -1, 0), -2);
        due("match missing", x.match(2, 0, -1, 0), -11);
        due("match other missing", x.match(0, 2, -1, 0), -11);
        // only a gram that both pick anchors: bcd here is a print of neither window row of work 3
        x.rule(1, 6);
        hand(x, 2, 0, 0, "zbcdz");
        hand(x, 3, 0, 0, "aaabcdaaa");
        dueText("no anchor", matchesOf(x, 2, 3), "");
        x.rule(1, 1);
        dueText("anchor", matchesOf(x, 2, 3), "1-3x3*");
        // letters that aren't in an uncommon gram may still be grown over
        x.rule(2, 3);
        hand(x, 4, 0, 0, "abc");
        dueText("grown over common", matchesOf(x, 0, 1), "0-5x6* 7-0x5");
        x.rule(2, 2);
        dueText("all common", matchesOf(x, 0, 1), "");
    }

    private static void chain() {
        HandedWorks x = new HandedWorks();
        hand(x, 0, 0, 0, "abcd efgh ijklm");
        hand(x, 1, 0, 0, "ijklm1abcd2efgh");
        // abcdefgh goes on over what doesn't count, as one match
        dueText("chain", matchesOf(x, 0, 1), "0-5x8* 8-0x5");
        due("chain letters", x.chain(0, 1, 0), 8);
        due("chain matches", x.chain(0, 1, 1), 1);
        due("chain moved", x.chain(0, 1, 2), 5);
        hand(x, 1, 0, 0, "abcdxefghxijklm");
        dueText("chain of three", matchesOf(x, 0, 1), "0-0x4* 4-5x4* 8-10x5*");
        due("chain three letters", x.chain(0, 1, 0), 13);
        due("chain three", x.chain(0, 1, 1), 3);
        due("chain three moved", x.chain(0, 1, 2), 0);
        dueText("chain of three back", matchesOf(x, 1, 0), "0-0x4* 5-4x4* 10-8x5*");
        hand(x, 1, 0, 0, "efghxabcd");
        dueText("chain earliest", matchesOf(x, 0, 1), "0-5x4* 4-0x4");
        dueText("chain earliest back", matchesOf(x, 1, 0), "0-4x4* 5-0x4");
        // the first is the same, of its seconds the earlier one
        hand(x, 0, 0, 0, "qqqqxabcdxefgh");
        hand(x, 1, 0, 0, "qqqqyefghyabcd");
        dueText("chain second", matchesOf(x, 0, 1), "0-0x4* 5-10x4* 10-5x4");
        // two overlap by a letter in the one: they can't be in one row
        hand(x, 0, 0, 0, "abcdefg");
        hand(x, 1, 0, 0, "abcdydefg");
        dueText("chain overlap", matchesOf(x, 0, 1), "0-0x4* 3-5x4");
        dueText("chain overlap back", matchesOf(x, 1, 0), "0-0x4* 5-3x4");
        due("chain none", x.rule(4, 5), 4);
        due("chain none letters", x.chain(0, 1, 0), 0);
        due("chain none matches", x.chain(0, 1, 1), 0);
        due("chain none moved", x.chain(0, 1, 2), 0);
        due("chain what", x.chain(0, 1, 3), -2);
        due("chain what -1", x.chain(0, 1, -1), -2);
        due("chain same", x.chain(0, 0, 0), -2);
        due("chain work", x.chain(-1, 0, 0), -2);
        due("chain other", x.chain(0, 5, 0), -2);
        due("chain missing", x.chain(2, 0, 0), -11);
        due("chain other missing", x.chain(0, 2, 0), -11);
        due("chain bad before missing", x.chain(0, 2, 3), -2);
    }

    private static void like() {
        HandedWorks x = new HandedWorks();
        x.rule(0, 2);
        x.rule(1, 1);
        hand(x, 0, 0, 0, "abcdab");
        hand(x, 1, 0, 0, "abcxyz");
        // ab bc cd da | ab bc cx xy yz: 2 of 7
        due("like above", x.like(0, 1, 0), 2);
        due("like below", x.like(0, 1, 1), 7);
        due("like back", x.like(1, 0, 1), 7);
        hand(x, 2, 0, 0, "abcd");
        // ab bc cd | ab bc cd da: 3 of 4; ab bc | ab bc cd cx xy yz: 2 of 6
        due("like 3", x.like(0, 2, 0), 3);
        due("like 4", x.like(0, 2, 1), 4);
        due("like lowest above", x.like(1, 2, 0), 1);
        due("like lowest below", x.like(1, 2, 1), 3);
        x.rule(2, 3);
        // ab, bc are common then: cd | cd da: 1 of 2
        due("like uncommon", x.like(0, 2, 0), 1);
        due("like uncommon below", x.like(0, 2, 1), 2);
        due("like nothing", x.like(0, 1, 0), 0);
        due("like nothing below", x.like(0, 1, 1), 1);
        hand(x, 3, 0, 0, "a");
        hand(x, 4, 0, 0, "1");
        due("like neither", x.like(3, 4, 0), 0);
        due("like neither below", x.like(3, 4, 1), 1);
        due("like one", x.like(3, 0, 1), 1);
        due("like part", x.like(0, 1, 2), -2);
        due("like part -1", x.like(0, 1, -1), -2);
        due("like same", x.like(1, 1, 0), -2);
        due("like work", x.like(5, 1, 0), -2);
        due("like other", x.like(1, -1, 0), -2);
        x.drop(4);
        due("like missing", x.like(4, 0, 0), -11);
        due("like other missing", x.like(0, 4, 0), -11);
    }

    private static HandedWorks sources() {
        HandedWorks x = new HandedWorks();
        hand(x, 0, 0, 9, "abcdefgh1ijklmn opqr");
        hand(x, 1, 0, 5, "abcdef");
        hand(x, 2, 0, 5, "xdefghijk");
        hand(x, 3, 0, 4, "yijklmn");
        return x;
    }

    private static void span() {
        HandedWorks x = sources();
        // abcdef by 1 (6), defghijk by 2 (8), ijklmn by 3 (6); opqr by none
        dueText("spans", spansOf(x, 0), "0..2=1 3..11=2 12..14=3");
        due("span 3", x.span(0, 3, 0), -12);
        due("span -2", x.span(0, -2, 0), -12);
        due("span far", x.span(0, MOST_INT, 2), -12);
        due("span what", x.span(0, -1, 3), -2);
        due("span what -1", x.span(0, 0, -1), -2);
        due("span work", x.span(5, -1, 0), -2);
        due("span bad before missing", x.span(4, -1, 3), -2);
        due("span missing", x.span(4, -1, 0), -11);
        x.rule(4, 7);
        dueText("spans by 7", spansOf(x, 0), "3..11=2");
        x.rule(4, 9);
        dueText("spans by 9", spansOf(x, 0), "");
        // a letter without a source parts two spans of one source
        hand(x, 4, 0, 0, "qabcdqwertyqijklq");
        x.rule(4, 4);
        x.drop(1);
        x.drop(2);
        x.drop(3);
        dueText("spans parted", spansOf(x, 4), "1..4=0 12..15=0");
    }

    private static void source() {
        HandedWorks x = sources();
        int[] due = {1, 1, 1, 2, 2, 2, 2, 2, 2, 2, 2, 3, 3, 3, -1, -1, -1, -1};
        for (int i = 0; i < due.length; i++) {
            due("source " + i, x.source(0, i), due[i]);
        }
        due("source 18", x.source(0, 18), -12);
        due("source -1", x.source(0, -1), -12);
        due("source far", x.source(0, MOST_INT), -12);
        due("source work", x.source(-1, 0), -2);
        due("source missing", x.source(4, 0), -11);
        // of like lengths the least day, then the least work
        hand(x, 1, 0, 5, "abcdef");
        hand(x, 2, 0, 5, "abcdef");
        hand(x, 3, 0, 5, "abcdef");
        due("source least work", x.source(0, 0), 1);
        due("source of 1", x.source(1, 0), 2);
        x.alter(3, 1, 4);
        due("source least day", x.source(0, 0), 3);
        x.alter(2, 1, 3);
        due("source lesser day", x.source(0, 0), 2);
        hand(x, 4, 0, 99, "abcdefg");
        due("source longest before day", x.source(0, 0), 4);
        due("source behind", x.source(0, 6), 4);
        due("source none", x.source(0, 7), -1);
        x.rule(3, 4);
        due("source base", x.source(0, 0), -1);
    }

    private static void share() {
        HandedWorks x = sources();
        due("share", x.share(0, 0), 14);
        due("share in a hundred", x.share(0, 1), 77);
        due("share work", x.share(0, 2), 2);
        x.rule(4, 7);
        due("share by 7", x.share(0, 0), 8);
        due("share by 7 in a hundred", x.share(0, 1), 44);
        x.rule(4, 9);
        due("share none", x.share(0, 0), 0);
        due("share none in a hundred", x.share(0, 1), 0);
        due("share none work", x.share(0, 2), -1);
        due("share what", x.share(0, 3), -2);
        due("share what -1", x.share(0, -1), -2);
        due("share work 5", x.share(5, 0), -2);
        due("share bad before missing", x.share(4, 3), -2);
        due("share missing", x.share(4, 0), -11);
        hand(x, 4, 0, 0, "12");
        due("share no letters", x.share(4, 1), 0);
        due("share no letters", x.share(4, 0), 0);
        x.rule(4, 4);
        hand(x, 0, 0, 9, "abcdzijkl");
        hand(x, 3, 0, 0, "ijkl");
        hand(x, 2, 0, 9, "abcd");
        x.drop(1);
        due("share tie", x.share(0, 2), 2);
        due("share all", x.share(0, 1), 88);
    }

    private static void group() {
        HandedWorks x = new HandedWorks();
        hand(x, 0, 0, 0, "abcdefgh");
        hand(x, 1, 0, 0, "efghuvwxyz");
        hand(x, 2, 0, 0, "uvwxyzabmn");
        hand(x, 4, 0, 0, "qrstqrstq");
        // 0 and 1: 4 of 8, 4 of 10; 1 and 2: 6 of 10
        due("group", x.group(0), 7);
        due("group on and on", x.group(2), 7);
        due("group alone", x.group(4), 16);
        x.rule(5, 51);
        due("group by 51", x.group(0), 1);
        due("group by 51, the others", x.group(1), 6);
        x.rule(5, 60);
        due("group by 60", x.group(1), 6);
        x.rule(5, 61);
        due("group by 61", x.group(1), 2);
        x.rule(5, 0);
        due("group by 0", x.group(0), 7);
        due("group by 0 needs any", x.group(4), 16);
        due("group work", x.group(5), -2);
        due("group work -1", x.group(-1), -2);
        due("group missing", x.group(3), -11);
        // 100 times letters, not cut: 2 in 3 are less than 67 in a hundred, and not less than 66
        x.rule(0, 2);
        x.rule(4, 2);
        x.drop(2);
        hand(x, 0, 0, 0, "abz");
        hand(x, 1, 0, 0, "abcdefghijk");
        x.rule(5, 67);
        due("group by 67", x.group(0), 1);
        x.rule(5, 66);
        due("group by 66", x.group(0), 3);
        // letters in several matches are one each
        hand(x, 0, 0, 0, "ababababcdefghij");
        hand(x, 1, 0, 0, "qabwabeabrtyuiop");
        x.rule(5, 51);
        due("group of letters once", x.group(0), 1);
    }

    private static void without() {
        HandedWorks x = sources();
        due("without 1", x.without(0, 1), 11);
        due("without 2", x.without(0, 2), 12);
        due("without 3", x.without(0, 3), 11);
        due("without: in thought", x.share(0, 0), 14);
        due("without: in thought", x.count(0), 4);
        due("without same", x.without(0, 0), -2);
        due("without work", x.without(5, 0), -2);
        due("without other", x.without(0, 5), -2);
        due("without missing", x.without(4, 0), -11);
        due("without other missing", x.without(0, 4), -11);
        // what was common by three isn't by the two that are left
        hand(x, 2, 0, 0, "abcdef");
        x.drop(3);
        x.rule(2, 3);
        due("share common", x.share(0, 0), 0);
        due("without, less common", x.without(0, 2), 6);
        x.rule(2, 6);
        x.rule(3, 2);
        due("share by base", x.share(0, 0), 0);
        due("without base", x.without(0, 2), 6);
    }

    private static void drawn() {
        HandedWorks x = new HandedWorks();
        hand(x, 0, 0, 0, "abcdefghij");
        hand(x, 1, 0, 0, "abcdefghij");
        due("drawn by none", x.drawn(0, 7, 0, 0), 10);
        due("drawn by none in a hundred", x.drawn(0, 7, 0, 1), 100);
        // z of 1 is 1103527590, then 2524885223; >>> 9: 2155327, 4931416; byte 7 becomes 97 + 22, a w
        int z = 1103515245 + 12345;
        due("drawn: byte", (z >>> 9) % 10, 7);
        z = z * 1103515245 + 12345;
        due("drawn: by", 97 + (z >>> 9) % 26, 'w');
        due("drawn", x.drawn(0, 1, 1, 0), 7);
        due("drawn in a hundred", x.drawn(0, 1, 1, 1), 70);
        due("drawn: in thought", x.share(0, 0), 10);
        dueText("drawn: in thought", rawOf(x, 0), "abcdefghij");
        // z of -1 is 3191464396, below 0 as an int, then 288979989; >>> 9: 6233328, 564414
        int y = -1103515245 + 12345;
        due("drawn below 0: byte", (y >>> 9) % 10, 8);
        y = y * 1103515245 + 12345;
        due("drawn below 0: by", 97 + (y >>> 9) % 26, 'g');
        due("drawn below 0", x.drawn(0, -1, 1, 0), 8);
        due("drawn 20", x.drawn(0, LEAST_INT, 20, 0) >= 0 ? 1 : 0, 1);
        due("drawn 21", x.drawn(0, 1, 21, 0), -2);
        due("drawn -1", x.drawn(0, 1, -1, 0), -2);
        due("drawn what", x.drawn(0, 1, 1, 2), -2);
        due("drawn what -1", x.drawn(0, 1, 1, -1), -2);
        due("drawn work", x.drawn(5, 1, 1, 0), -2);
        due("drawn bad before missing", x.drawn(2, 1, 21, 0), -2);
        due("drawn missing", x.drawn(2, 1, 1, 0), -11);
        // a byte that doesn't count may become a letter
        hand(x, 2, 0, 0, "1");
        due("drawn of a digit", x.drawn(2, 1, 1, 1), 0);
    }

    private static void chance() {
        HandedWorks x = new HandedWorks();
        hand(x, 0, 0, 0, "abcdefghijklmnopqrst");
        hand(x, 1, 0, 0, "abcdefghijklmnopqrst");
        int[] shares = new int[3];
        for (int i = 0; i < 3; i++) {
            shares[i] = x.drawn(0, 40 + i, 3, 1);
        }
        for (int share = 0; share <= 100; share++) {
            int n = 0;
            for (int s : shares) {
                n += s >= share ? 1 : 0;
            }
            due("chance above " + share, x.chance(0, 40, 3, share, 0), n == 3 ? 1 : n);
            due("chance below " + share, x.chance(0, 40, 3, share, 1), n == 3 || n == 0 ? 1 : 3);
        }
        due("chance one", x.chance(0, 41, 1, shares[1], 0), 1);
        due("chance one below", x.chance(0, 41, 1, shares[1], 1), 1);
        due("chance two of two", x.chance(0, 40, 2, 0, 0), 1);
        due("chance two of two below", x.chance(0, 40, 2, 0, 1), 1);
        due("chance at the end", x.chance(0, MOST_INT, 2, 0, 1), 1);
        int last = x.drawn(0, MOST_INT, 3, 1);
        int on = x.drawn(0, LEAST_INT, 3, 1);
        int both = (last >= 60 ? 1 : 0) + (on >= 60 ? 1 : 0);
        due("chance over the end", x.chance(0, MOST_INT, 2, 60, 0), both == 0 ? 0 : 1);
        due("chance over the end, below", x.chance(0, MOST_INT, 2, 60, 1), both == 1 ? 2 : 1);
        due("chance: in thought", x.share(0, 1), 100);
        due("chance m 0", x.chance(0, 1, 0, 0, 0), -2);
        due("chance m 4", x.chance(0, 1, 4, 0, 0), -2);
        due("chance share 101", x.chance(0, 1, 1, 101, 0), -2);
        due("chance share -1", x.chance(0, 1, 1, -1, 0), -2);
        due("chance part", x.chance(0, 1, 1, 0, 2), -2);
        due("chance part -1", x.chance(0, 1, 1, 0, -1), -2);
        due("chance work", x.chance(5, 1, 1, 0, 0), -2);
        due("chance bad before missing", x.chance(2, 1, 4, 0, 0), -2);
        due("chance missing", x.chance(2, 1, 1, 0, 0), -11);
    }

    private static void tells() {
        HandedWorks x = sources();
        putAll(x, 0, 1, 0, 2, 3, 11, 12, 14);
        due("tells all", x.tells(0, 0, 0), -1);
        due("tells least", x.tells(0, 0, 1), 1);
        due("tells greatest", x.tells(0, 0, 2), 6);
        putAll(x, 1, 0, 3, 11);
        due("tells too few", x.tells(1, 0, 0), 0);
        due("tells by 7", x.tells(1, 0, 1), 7);
        due("tells by 8", x.tells(1, 0, 2), 8);
        leastOfFifty();
        putAll(x, 1, 1, 0, 2, 3, 11);
        due("tells too few at the end", x.tells(1, 0, 0), 4);
        due("tells never, the least", x.tells(1, 0, 1), -1);
        due("tells never, the greatest", x.tells(1, 0, 2), -1);
        putAll(x, 1, 1, 0, 2, 3, 11, 12, 14, 0);
        due("tells one too many", x.tells(1, 0, 0), 6);
        putAll(x, 1, 1, 0, 2, 4, 11, 12, 14);
        due("tells otherwise", x.tells(1, 0, 0), 2);
        putAll(x, 1, 1, 256, 2, 3, 11, 12, 14);
        due("tells ints whole", x.tells(1, 0, 0), 0);
        x.sheet(1, 0, 0);
        due("tells nothing", x.tells(1, 0, 0), 0);
        due("tells nothing by 9", x.tells(1, 0, 1), 9);
        due("tells nothing by 50", x.tells(1, 0, 2), 50);
        x.rule(4, 9);
        due("tells nothing then", x.tells(1, 0, 0), -1);
        due("tells: the rule is as it was", x.rule(4, 4), 9);
        x.sheet(1, 0, 20);
        due("tells 20", x.tells(1, 0, 0), 1);
        x.sheet(1, 0, 21);
        due("tells 21", x.tells(1, 0, 0), -2);
        due("tells missing before 21", x.tells(1, 4, 0), -11);
        due("tells sheet missing", x.tells(2, 0, 0), -11);
        due("tells what", x.tells(0, 0, 3), -2);
        due("tells what -1", x.tells(0, 0, -1), -2);
        due("tells sheet", x.tells(4, 0, 0), -2);
        due("tells sheet -1", x.tells(-1, 0, 0), -2);
        due("tells work", x.tells(0, 5, 0), -2);
        due("tells bad before missing", x.tells(2, 4, 3), -2);
    }

    /** Works that match in 49 letters: a sheet that tells nothing is right by 50 alone. */
    private static void leastOfFifty() {
        HandedWorks x = new HandedWorks();
        String long49 = "abcdefghijklmnopqrstuvwxyzabcdefghijklmnopqrstuvw";
        hand(x, 0, 0, 0, long49);
        hand(x, 1, 0, 0, long49 + "y");
        x.sheet(0, 0, 0);
        due("tells by fifty alone, the least", x.tells(0, 0, 1), 50);
        due("tells by fifty alone, the greatest", x.tells(0, 0, 2), 50);
        putAll(x, 0, 0, 0, 48);
        due("tells up to 49", x.tells(0, 0, 2), 49);
    }

    private static void film() {
        HandedWorks x = sources();
        due("film", x.film(3, 0), 6);
        due("film: tells", x.tells(3, 0, 0), -1);
        due("film: put inside", x.put(3, 5, 7), 1);
        due("film: put outside", x.put(3, 6, 0), -12);
        due("film: otherwise", x.tells(3, 0, 0), 5);
        x.sheet(2, 0, 1);
        due("film: bytes", x.copy(2, 0, 3, 0, 1), 1);
        x.sheet(2, 1, 40);
        due("film again", x.film(2, 0), 6);
        due("film: size", x.put(2, 6, 0), -12);
        x.rule(4, 9);
        due("film nothing", x.film(2, 0), 0);
        due("film nothing: a sheet", x.put(2, 0, 0), -12);
        due("film sheet", x.film(4, 0), -2);
        due("film sheet -1", x.film(-1, 0), -2);
        due("film work", x.film(0, 5), -2);
        due("film missing", x.film(0, 4), -11);
        due("film missing: none came", x.put(0, 0, 0), -11);
        manySpans();
    }

    /** Eleven spans: the sheet takes 20 numbers; a telling needs more than it may have. */
    private static void manySpans() {
        HandedWorks x = new HandedWorks();
        x.rule(0, 2);
        x.rule(1, 1);
        x.rule(4, 2);
        hand(x, 0, 0, 0, "abqcdrefsghtijuklvmnwopxqryabzcd");
        hand(x, 1, 0, 0, "ab1cd1ef1gh1ij1kl1mn1op1qr1");
        x.cut(1, 2, 1);
        hand(x, 1, 2, 0, "ab1cd1ef1gh1ij1kl1mn1op1qr1");
        due("many spans", x.span(0, -1, 0), 11);
        due("many: film", x.film(0, 0), 20);
        due("many: put", x.put(0, 20, 0), -12);
        due("many: too few", x.tells(0, 0, 0), 20);
        due("many: never", x.tells(0, 0, 1), -1);
        x.put(0, 19, 0);
        due("many: otherwise", x.tells(0, 0, 0), 19);
    }

    private static void image() {
        HandedWorks x = new HandedWorks();
        due("image of none", x.image(), 0);
        hand(x, 0, 3, 8, "abc");
        hand(x, 4, 0, 0, "xyz");
        due("back to none", x.back(), 0);
        due("back: missing", x.raw(0, -1), -11);
        hand(x, 0, 3, 8, "abc");
        hand(x, 4, 0, 0, "xyz");
        x.rule(0, 4);
        due("image of two", x.image(), 2);
        x.cut(0, 1, 1);
        x.alter(0, 0, 1);
        x.alter(0, 1, 9);
        x.drop(4);
        hand(x, 2, 0, 0, "q");
        x.rule(0, 5);
        x.rule(3, 2);
        x.sheet(1, 1, 3);
        x.feed(2, 'a', 'b', 0, 0, 0);
        due("back to two", x.back(), 2);
        dueText("back: raw", rawOf(x, 0), "abc");
        dueText("back: raw 4", rawOf(x, 4), "xyz");
        due("back: none", x.raw(2, -1), -11);
        due("back: kind", x.alter(0, 0, 2), 3);
        due("back: day", x.alter(0, 1, 1), 8);
        due("back: rule", x.rule(0, 6), 4);
        due("back: base", x.rule(3, 0), -1);
        due("back: sheets stay", x.put(1, 2, 0), 1);
        due("back: the tape stays", x.count(5), 2);
        due("back again", x.back(), 2);
        due("back again: kind", x.alter(0, 0, 2), 3);
        due("back again: rule", x.rule(0, 6), 4);
        due("a later image", x.image(), 2);
        due("a later image: back", x.back(), 2);
        due("a later image: kind", x.alter(0, 0, 2), 2);
    }

    private static void back() {
        HandedWorks x = new HandedWorks();
        due("back without", x.back(), -3);
        hand(x, 0, 0, 0, "abc");
        due("back without: as it was", x.raw(0, -1), 3);
        x.image();
        x.without(0, 1);
        x.drawn(0, 5, 20, 0);
        x.chance(0, 5, 3, 50, 0);
        due("back", x.back(), 1);
        dueText("back: raw", rawOf(x, 0), "abc");
    }

    private static void count() {
        HandedWorks x = new HandedWorks();
        hand(x, 0, 0, 0, "abcd 1");
        hand(x, 3, 0, 0, "bcd2abc");
        hand(x, 4, 0, 0, "1");
        x.feed(3, 0, 0, 0, 0, 0);
        due("count works", x.count(0), 3);
        due("count raw", x.count(1), 14);
        due("count letters", x.count(2), 10);
        // abc bcd: the window of two picks 0; bcd cda dab abc: windows pick 0, 1, 3
        due("count prints", x.count(3), 4);
        due("count unlike grams", x.count(4), 4);
        due("count tape", x.count(5), 3);
        due("count 6", x.count(6), -2);
        due("count -1", x.count(-1), -2);
        due("count far", x.count(MOST_INT), -2);
        x.drop(3);
        due("count raw then", x.count(1), 7);
        due("count letters then", x.count(2), 4);
        due("count prints then", x.count(3), 1);
        due("count grams then", x.count(4), 2);
    }

    private static void sheet() {
        HandedWorks x = new HandedWorks();
        due("sheet", x.sheet(0, 0, 40), 1);
        due("sheet: last", x.put(0, 39, 1), 1);
        due("sheet: behind", x.put(0, 40, 1), -12);
        due("sheet ints", x.sheet(3, 1, 0), 1);
        due("sheet 4", x.sheet(4, 0, 1), -2);
        due("sheet -1", x.sheet(-1, 0, 1), -2);
        due("sheet sort", x.sheet(0, 2, 1), -2);
        due("sheet sort -2", x.sheet(0, -2, 1), -2);
        due("sheet 41", x.sheet(0, 0, 41), -2);
        due("sheet below", x.sheet(0, 1, -1), -14);
        due("sheet lowest", x.sheet(0, 1, LEAST_INT), -14);
        due("sheet: as it was", x.put(0, 39, 1), 1);
        due("sheet away", x.sheet(0, -1, -7), 1);
        due("sheet away: missing", x.put(0, 0, 1), -11);
        due("sheet away again", x.sheet(0, -1, 99), 1);
        hand(x, 0, 0, 0, "abcd");
        hand(x, 1, 0, 0, "abcd");
        x.sheet(1, 1, 2);
        x.put(1, 0, 3);
        x.put(1, 1, 3);
        x.sheet(1, 1, 2);
        // spans tell 0, 3: a new row is all 0
        due("sheet all 0", x.tells(1, 0, 0), 1);
        x.put(1, 0, 9);
        x.sheet(1, 1, 1);
        x.sheet(1, 1, 2);
        x.put(1, 1, 3);
        due("sheet all 0 again", x.tells(1, 0, 0), -1);
    }

    private static void put() {
        HandedWorks x = new HandedWorks();
        hand(x, 0, 0, 0, "abcd");
        hand(x, 1, 0, 0, "abcd");
        x.sheet(0, 0, 2);
        due("put", x.put(0, 1, 3), 1);
        due("put: told", x.tells(0, 0, 0), -1);
        due("put low bits", x.put(0, 1, 256 + 3), 1);
        due("put low bits: told", x.tells(0, 0, 0), -1);
        due("put below 0", x.put(0, 1, -253), 1);
        due("put below 0: told", x.tells(0, 0, 0), -1);
        due("put 255", x.put(0, 0, 255), 1);
        due("put 255: told", x.tells(0, 0, 0), 0);
        x.sheet(1, 1, 2);
        due("put int", x.put(1, 1, 256 + 3), 1);
        due("put int: told", x.tells(1, 0, 0), 1);
        due("put sheet", x.put(4, 0, 0), -2);
        due("put sheet -1", x.put(-1, 0, 0), -2);
        due("put missing", x.put(2, 0, 0), -11);
        due("put behind", x.put(1, 2, 0), -12);
        due("put ahead", x.put(1, -1, 0), -12);
        due("put far", x.put(1, MOST_INT, 0), -12);
        due("put other sheets", x.tells(0, 0, 0), 0);
    }

    private static void copy() {
        HandedWorks x = new HandedWorks();
        hand(x, 0, 0, 0, "qabcd1efghz");
        hand(x, 1, 0, 0, "abcd");
        hand(x, 2, 0, 0, "efgh");
        // spans tell 1, 4, 6, 9
        putAll(x, 0, 1, 7, 1, 4, 6, 9);
        x.sheet(1, 1, 4);
        due("copy", x.copy(0, 1, 1, 0, 4), 4);
        due("copy: told", x.tells(1, 0, 0), -1);
        due("copy over itself, down", x.copy(0, 1, 0, 0, 4), 4);
        due("copy: down", x.tells(0, 0, 0), 4);
        due("copy over itself, up", x.copy(0, 0, 0, 1, 4), 4);
        due("copy up and down", x.copy(0, 1, 0, 0, 4), 4);
        due("copy: up and down", x.tells(0, 0, 0), 4);
        due("copy none", x.copy(0, 5, 1, 4, 0), 0);
        due("copy sheet", x.copy(4, 0, 0, 0, 1), -2);
        due("copy other", x.copy(0, 0, -1, 0, 1), -2);
        due("copy missing", x.copy(2, 0, 0, 0, 1), -11);
        due("copy other missing", x.copy(0, 0, 2, 0, 1), -11);
        x.sheet(2, 0, 4);
        due("copy unlike", x.copy(2, 0, 0, 0, 1), -13);
        due("copy unlike before outside", x.copy(2, 0, 0, 0, -1), -13);
        due("copy n -1", x.copy(0, 0, 1, 0, -1), -12);
        due("copy i -1", x.copy(0, -1, 1, 0, 1), -12);
        due("copy j -1", x.copy(0, 0, 1, -1, 1), -12);
        due("copy i behind", x.copy(0, 5, 1, 0, 1), -12);
        due("copy j behind", x.copy(0, 0, 1, 4, 1), -12);
        due("copy n behind", x.copy(0, 2, 1, 0, 4), -12);
        due("copy n behind the other", x.copy(0, 0, 1, 1, 4), -12);
        due("copy far", x.copy(0, MOST_INT, 1, MOST_INT, MOST_INT), -12);
        due("copy low", x.copy(0, LEAST_INT, 1, 0, MOST_INT), -12);
        due("copy: as it was", x.tells(1, 0, 0), -1);
    }

    private static void works() {
        newObject();
        feed();
        work();
        splice();
        cut();
        drop();
        alter();
        raw();
        letter();
        taken();
    }

    private static void gramsAndMatches() {
        rule();
        mark();
        print();
        common();
        match();
        chain();
        like();
    }

    private static void spansAndTold() {
        span();
        source();
        share();
        group();
        without();
        drawn();
        chance();
        tells();
        film();
        image();
        back();
        count();
    }

    public static void main(String[] args) {
        works();
        gramsAndMatches();
        spansAndTold();
        sheet();
        put();
        copy();
        System.out.println(wrong == 0 ? asked + " answers are as due" : wrong + " answers are not as due");
        if (wrong != 0) {
            System.exit(1);
        }
    }
}
