import java.util.ArrayList;
import java.util.List;
import java.util.function.ToLongFunction;

/** What the first terms say of refusals: their numbers, their order, and that they change nothing. */
final class RefusalEdges extends Asking {
    /** A call that is refused: by which number, and what it is. */
    private record Refused(long want, String told, ToLongFunction<HandedWorks> call) {
    }

    private RefusalEdges() {
    }

    static List<Edge> terms() {
        String t = "terms 1";
        return List.of(
            new Edge(t, "Refusals, the first that the call's words name", RefusalEdges::first),
            new Edge(t, "they change nothing (but THE TAPE, where told)", RefusalEdges::changeNothing),
            new Edge(t, "BAD (-2: a number is none such or not as told)", RefusalEdges::bad),
            new Edge(t, "STATE (-3), FULL (-4)", RefusalEdges::stateAndFull),
            new Edge(t, "-11 a WORK or a SHEET is missing", RefusalEdges::missing),
            new Edge(t, "-12 a place outside, -13 a thing of another sort or KIND, -14 a size below 0.",
                RefusalEdges::outsideAndUnlike));
    }

    /** An image of two works; then three works, rules, a byte sheet 0 that tells work 0, an int sheet 1, a tape of 48. */
    private static HandedWorks full() {
        HandedWorks x = handed("old", "older");
        x.rule(5, 40);
        x.image();
        hand(x, 0, 2, 3, "abcdef1");
        hand(x, 1, 0, 4, "abcde");
        hand(x, 2, 4, 5, "xy\"z");
        x.rule(4, 3);
        x.rule(5, 60);
        x.rule(3, 2);
        putAll(x, 0, 0, 0, 4);
        putAll(x, 1, 1, 300, 5, 6);
        tape(x, "abcdefghijklmnopqrstuvwxyz0123456789 \nabcdefghij");
        return x;
    }

    private static void tellSheets(HandedWorks x, StringBuilder b) {
        for (int s = 0; s < 4; s++) {
            int n = 0;
            while (n < 40 && x.copy(s, n, s, n, 1) == 1) {
                n++;
            }
            b.append(" sheet").append(n).append('/').append(x.copy(s, 0, 0, 0, 0)).append('/').append(x.tells(s, 0, 0))
                .append('/').append(x.tells(s, 0, 2));
        }
    }

    /** All that can be told of the state, but the bytes of the tape. */
    private static String state(HandedWorks x) {
        StringBuilder b = new StringBuilder();
        for (int what = 0; what < 6; what++) {
            b.append(x.count(what)).append(' ');
        }
        for (int w = 0; w < 5; w++) {
            b.append(rawOf(x, w)).append('|');
            for (int what = 0; what < 2; what++) {
                int was = x.alter(w, what, 0);
                b.append(was).append(was < 0 ? 0 : x.alter(w, what, was)).append('|');
            }
        }
        for (int what = 0; what < 6; what++) {
            int was = x.rule(what, 2);
            x.rule(what, was);
            b.append(was).append(' ');
        }
        tellSheets(x, b);
        return b.toString();
    }

    /** The state, then the one that the image brings, then the bytes of the tape. */
    private static String story(HandedWorks x) {
        String now = state(x);
        int works = x.back();
        String then = state(x);
        return now + " back " + works + then + " tape " + x.work(4, 0, 0) + rawOf(x, 4);
    }

    private static void changeNothing() {
        String due = story(full());
        for (Refused r : all()) {
            HandedWorks x = full();
            due(r.told, r.call.applyAsLong(x), r.want);
            dueText("the state behind " + r.told, story(x), due);
        }
        HandedWorks x = full();
        due("back without an image", new HandedWorks().back(), -3);
        due("the tape is full", x.feed(3, 1, 1, 1, 1, 1), -4);
        x.feed(1, 'A', 0, 0, 0, 0);
        due("a tape that is none", x.work(0, 0, 0), -3);
        due("the tape went, as told", x.count(5), 0);
        dueText("and nothing else", rawOf(x, 0), "abcdef1");
    }

    private static List<Refused> all() {
        List<Refused> all = new ArrayList<>();
        works(all);
        letters(all);
        pairs(all);
        told(all);
        host(all);
        return all;
    }

    private static void is(List<Refused> all, long want, String told, ToLongFunction<HandedWorks> call) {
        all.add(new Refused(want, told, call));
    }

    private static void works(List<Refused> all) {
        is(all, -2, "feed(0)", x -> x.feed(0, 1, 1, 1, 1, 1));
        is(all, -2, "feed 256", x -> x.feed(1, 1, 1, 1, 1, 256));
        is(all, -4, "feed(3)", x -> x.feed(3, 1, 1, 1, 1, 1));
        is(all, -2, "work(5)", x -> x.work(5, 0, 0));
        is(all, -2, "work of kind 6", x -> x.work(0, 6, 0));
        is(all, -2, "work of day 100", x -> x.work(0, 0, 100));
        is(all, -2, "splice into 5", x -> x.splice(5, 0, 0, 0, 1));
        is(all, -11, "splice into 3", x -> x.splice(3, 0, 0, 0, 1));
        is(all, -11, "splice of 3", x -> x.splice(0, 0, 3, 0, 1));
        is(all, -12, "splice at 8", x -> x.splice(0, 8, 1, 0, 1));
        is(all, -12, "splice of 6", x -> x.splice(0, 0, 1, 0, 6));
        is(all, -12, "splice of 0", x -> x.splice(0, 0, 1, 0, 0));
        is(all, -2, "cut of 5", x -> x.cut(5, 0, 1));
        is(all, -11, "cut of 3", x -> x.cut(3, 0, 1));
        is(all, -12, "cut of 8", x -> x.cut(0, 0, 8));
        is(all, -12, "cut of 0", x -> x.cut(0, 0, 0));
        is(all, -3, "cut of all", x -> x.cut(0, 0, 7));
        is(all, -2, "drop(-1)", x -> x.drop(-1));
        is(all, -11, "drop(3)", x -> x.drop(3));
        is(all, -2, "alter what 2", x -> x.alter(0, 2, 0));
        is(all, -2, "alter kind 6", x -> x.alter(0, 0, 6));
        is(all, -2, "alter day 100", x -> x.alter(0, 1, 100));
        is(all, -11, "alter(3)", x -> x.alter(3, 0, 0));
        is(all, -2, "rule(6)", x -> x.rule(6, 3));
        int[][] outside = {{1, 7}, {0, 7}, {1, 7}, {-2, 5}, {0, 51}, {-1, 101}};
        for (int what = 0; what < 6; what++) {
            int rule = what;
            is(all, -2, "rule below " + what, x -> x.rule(rule, outside[rule][0]));
            is(all, -2, "rule above " + what, x -> x.rule(rule, outside[rule][1]));
        }
    }

    private static void letters(List<Refused> all) {
        is(all, -2, "raw(5)", x -> x.raw(5, 0));
        is(all, -11, "raw(3)", x -> x.raw(3, 0));
        is(all, -12, "raw 7", x -> x.raw(0, 7));
        is(all, -2, "letter what 2", x -> x.letter(0, -1, 2));
        is(all, -11, "letter(3)", x -> x.letter(3, -1, 0));
        is(all, -12, "letter 7", x -> x.letter(0, 7, 0));
        is(all, -2, "taken for 6", x -> x.taken(0, 6));
        is(all, -11, "taken(3)", x -> x.taken(3, 0));
        is(all, -13, "taken for 1", x -> x.taken(0, 1));
        is(all, NO, "mark(5)", x -> x.mark(5, 0));
        is(all, NO, "mark(3)", x -> x.mark(3, 0));
        is(all, NO, "mark 5", x -> x.mark(0, 5));
        is(all, -2, "print what 3", x -> x.print(0, -1, 3));
        is(all, -11, "print(3)", x -> x.print(3, -1, 0));
        is(all, -12, "print 40", x -> x.print(0, 40, 0));
        is(all, -2, "common what 2", x -> x.common(0, 2));
        is(all, -11, "common(3)", x -> x.common(3, 0));
    }

    private static void pairs(List<Refused> all) {
        is(all, -2, "match of itself", x -> x.match(0, 0, -1, 0));
        is(all, -2, "match what 4", x -> x.match(0, 1, -1, 4));
        is(all, -11, "match with 3", x -> x.match(0, 3, -1, 0));
        is(all, -12, "match 1", x -> x.match(0, 1, 1, 0));
        is(all, -2, "chain of itself", x -> x.chain(1, 1, 0));
        is(all, -2, "chain what 3", x -> x.chain(0, 1, 3));
        is(all, -11, "chain of 3", x -> x.chain(3, 1, 0));
        is(all, -2, "like itself", x -> x.like(2, 2, 0));
        is(all, -2, "like part 2", x -> x.like(0, 1, 2));
        is(all, -11, "like 3", x -> x.like(0, 3, 0));
        is(all, -2, "without itself", x -> x.without(0, 0));
        is(all, -11, "without 3", x -> x.without(0, 3));
    }

    private static void told(List<Refused> all) {
        is(all, -2, "span what 3", x -> x.span(0, -1, 3));
        is(all, -11, "span(3)", x -> x.span(3, -1, 0));
        is(all, -12, "span 1", x -> x.span(0, 1, 0));
        is(all, -2, "source(5)", x -> x.source(5, 0));
        is(all, -11, "source(3)", x -> x.source(3, 0));
        is(all, -12, "source 7", x -> x.source(0, 7));
        is(all, -2, "share what 3", x -> x.share(0, 3));
        is(all, -11, "share(3)", x -> x.share(3, 0));
        is(all, -2, "group(5)", x -> x.group(5));
        is(all, -11, "group(3)", x -> x.group(3));
        is(all, -2, "drawn by 21", x -> x.drawn(0, 1, 21, 0));
        is(all, -11, "drawn(3)", x -> x.drawn(3, 1, 2, 0));
        is(all, -2, "chance in 4", x -> x.chance(0, 1, 4, 5, 0));
        is(all, -2, "chance of 101", x -> x.chance(0, 1, 1, 101, 0));
        is(all, -11, "chance(3)", x -> x.chance(3, 1, 1, 5, 0));
        is(all, -2, "tells sheet 4", x -> x.tells(4, 0, 0));
        is(all, -2, "tells what 3", x -> x.tells(0, 0, 3));
        is(all, -11, "tells of 3", x -> x.tells(0, 3, 0));
        is(all, -11, "tells sheet 2", x -> x.tells(2, 0, 0));
        is(all, -2, "film on 4", x -> x.film(4, 0));
        is(all, -2, "film of 5", x -> x.film(0, 5));
        is(all, -11, "film of 3", x -> x.film(0, 3));
        is(all, -2, "count(6)", x -> x.count(6));
    }

    private static void host(List<Refused> all) {
        is(all, -2, "sheet(4)", x -> x.sheet(4, 0, 1));
        is(all, -2, "sheet of sort 2", x -> x.sheet(0, 2, 1));
        is(all, -2, "sheet of 41", x -> x.sheet(0, 0, 41));
        is(all, -14, "sheet of -1", x -> x.sheet(0, 0, -1));
        is(all, -2, "put on 4", x -> x.put(4, 0, 9));
        is(all, -11, "put on 2", x -> x.put(2, 0, 9));
        is(all, -12, "put 2", x -> x.put(0, 2, 9));
        is(all, -12, "put -1", x -> x.put(0, -1, 9));
        is(all, -2, "copy of 4", x -> x.copy(4, 0, 0, 0, 1));
        is(all, -11, "copy of 2", x -> x.copy(2, 0, 0, 0, 1));
        is(all, -11, "copy to 2", x -> x.copy(0, 0, 2, 0, 1));
        is(all, -13, "copy of ints to bytes", x -> x.copy(1, 0, 0, 0, 1));
        is(all, -12, "copy of 2 from 1", x -> x.copy(0, 0, 0, 1, 2));
        is(all, -12, "copy of -1", x -> x.copy(0, 1, 0, 0, -1));
    }

    private static void first() {
        HandedWorks x = full();
        due("feed: bad, full", x.feed(3, 1, 1, 1, 1, -1), -2);
        due("work: bad, state", new HandedWorks().work(0, 0, 100), -2);
        due("splice: bad, missing", x.splice(3, 0, 5, 0, 1), -2);
        due("splice: missing, outside", x.splice(0, 99, 3, 0, 0), -11);
        x.splice(2, 0, 0, 0, 7);
        x.splice(2, 0, 2, 0, 11);
        x.splice(2, 0, 2, 0, 22);
        due("splice: outside, full", x.splice(2, 99, 2, 0, 44), -12);
        due("splice: full", x.splice(2, 0, 2, 0, 44), -4);
        due("cut: missing, outside", x.cut(3, -1, 1), -11);
        due("cut: outside, state", x.cut(0, 1, 7), -12);
        due("alter: bad, missing", x.alter(3, 1, 100), -2);
        due("raw: missing, outside", x.raw(3, 99), -11);
        due("letter: bad, missing", x.letter(3, 99, 2), -2);
        due("letter: missing, outside", x.letter(3, 99, 1), -11);
        due("taken: bad, missing", x.taken(3, 6), -2);
        due("taken: missing, another kind", x.taken(3, 5), -11);
        due("print: bad, missing", x.print(3, 99, 3), -2);
        due("print: missing, outside", x.print(3, 99, 2), -11);
        due("common: bad, missing", x.common(3, 2), -2);
        firstOfPairs(x);
        firstOfTold(x);
        firstOfHost(x);
    }

    private static void firstOfPairs(HandedWorks x) {
        due("match: bad, missing", x.match(3, 3, 99, 0), -2);
        due("match: bad what, missing", x.match(3, 0, 99, 4), -2);
        due("match: bad other, missing", x.match(3, 5, 99, 0), -2);
        due("match: missing, outside", x.match(0, 3, 99, 3), -11);
        due("match: bad, outside", x.match(0, 1, 99, 4), -2);
        due("chain: bad, missing", x.chain(3, 3, 0), -2);
        due("chain: bad what, missing", x.chain(3, 0, 3), -2);
        due("like: bad, missing", x.like(3, 3, 0), -2);
        due("like: bad part, missing", x.like(0, 3, 2), -2);
        due("without: bad, missing", x.without(3, 3), -2);
        due("without: bad other, missing", x.without(3, 5), -2);
    }

    private static void firstOfTold(HandedWorks x) {
        due("span: bad, missing", x.span(3, 99, 3), -2);
        due("span: missing, outside", x.span(3, 99, 2), -11);
        due("source: missing, outside", x.source(3, 99), -11);
        due("share: bad, missing", x.share(3, 3), -2);
        due("drawn: bad n, missing", x.drawn(3, 1, 21, 0), -2);
        due("drawn: bad what, missing", x.drawn(3, 1, 0, 2), -2);
        due("chance: bad m, missing", x.chance(3, 1, 0, 0, 0), -2);
        due("chance: bad share, missing", x.chance(3, 1, 1, 101, 0), -2);
        due("chance: bad part, missing", x.chance(3, 1, 1, 100, 2), -2);
        due("tells: bad what, missing", x.tells(2, 3, 3), -2);
        due("tells: bad work, missing", x.tells(2, 5, 0), -2);
        due("tells: bad sheet, missing", x.tells(4, 3, 0), -2);
        x.sheet(3, 0, 21);
        due("tells: missing, then bad", x.tells(3, 3, 0), -11);
        due("tells: bad", x.tells(3, 0, 0), -2);
        due("film: bad sheet, missing", x.film(4, 3), -2);
    }

    private static void firstOfHost(HandedWorks x) {
        due("sheet: bad, size", x.sheet(4, 0, -1), -2);
        due("sheet: bad sort, size", x.sheet(0, 2, -1), -2);
        due("put: missing, outside", x.put(2, -1, 0), -11);
        due("put: bad, outside", x.put(4, -1, 0), -2);
        due("copy: bad, missing", x.copy(2, 0, 4, 0, 1), -2);
        due("copy: missing, unlike", x.copy(2, 0, 1, 0, 1), -11);
        due("copy: missing, outside", x.copy(0, 99, 2, 0, 1), -11);
        due("copy: unlike, outside", x.copy(0, 99, 1, -1, -1), -13);
    }

    private static void bad() {
        HandedWorks x = handed("abc");
        due("a work that is none", x.drop(5), -2);
        due("a what that is none", x.share(0, 3), -2);
        due("a rule not as told", x.rule(0, 7), -2);
        due("a sheet that is none", x.sheet(4, 0, 1), -2);
        due("a byte not as told", x.feed(1, 256, 0, 0, 0, 0), -2);
    }

    private static void stateAndFull() {
        HandedWorks x = handed("abc");
        due("state", x.back(), -3);
        due("state of the tape", x.work(0, 0, 0), -3);
        due("state of a cut", x.cut(0, 0, 3), -3);
        hand(x, 1, 0, 0, "abcdefghijklmnopqrstuvwxyzabcdefghijklmnopqrstuvwx");
        due("full", x.splice(0, 0, 1, 0, 50), -4);
        tape(x, rawOf(x, 1));
        due("a full tape", x.feed(1, 0, 0, 0, 0, 0), -4);
    }

    private static void missing() {
        HandedWorks x = handed("abc");
        due("a work", x.raw(4, 0), -11);
        due("a sheet", x.put(3, 0, 0), -11);
        due("of two works", x.like(0, 4, 0), -11);
        due("of two sheets", x.copy(3, 0, 2, 0, 0), -11);
    }

    private static void outsideAndUnlike() {
        HandedWorks x = handed("abc");
        x.sheet(0, 0, 2);
        x.sheet(1, 1, 2);
        due("a place outside a work", x.raw(0, 3), -12);
        due("a place outside a sheet", x.put(0, 2, 0), -12);
        due("another sort", x.copy(0, 0, 1, 0, 1), -13);
        due("another kind", x.taken(0, 1), -13);
        due("a size below 0", x.sheet(0, 0, -1), -14);
    }
}
