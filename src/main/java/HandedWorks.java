import java.util.Arrays;

/**
 * Handed works are compared: what of their texts counts, which prints anchor matches between them,
 * whence each letter comes, and what would be otherwise. DOC.md tells what every call answers.
 */
public final class HandedWorks {
    public static final int NONE = -1, BAD = -2, STATE = -3, FULL = -4;
    public static final long NO = -4611686018427387904L;

    private static final int MISSING = -11, OUTSIDE = -12, UNLIKE = -13, NEGATIVE = -14;
    private static final int WORKS = 5, ROOM = 50, CELLS = WORKS * ROOM;
    private static final int KINDS = 6, LAST_DAY = 99, LAST_BYTE = 255;
    private static final int SHEETS = 4, ITEMS = 40, MOST_TOLD = 20;
    private static final int BYTES = 0, INTS = 1;
    private static final int PLAIN = 0, QUOTING = 1, CODE = 2, RENAMED = 3, VERSE = 4, LOOSE = 5;
    private static final int K = 0, N = 1, MANY = 2, BASE = 3, LEAST = 4, LIMIT = 5, RULES = 6;
    private static final int LINE_END = 10, BLANK = 32, QUOTE = 34;
    private static final int MOST_DRAWS = 20, MOST_SEEDS = 3, CHANCE_DRAWS = 3, HUNDRED = 100;

    /** The kind that each kind stands right under. */
    private static final int[] OVER = {NONE, PLAIN, PLAIN, CODE, QUOTING, QUOTING};
    private static final int[] RULE_LEAST = {2, 1, 2, NONE, 1, 0};
    private static final int[] RULE_MOST = {6, 6, 6, WORKS - 1, ROOM, HUNDRED};

    private final Shelf shelf;
    private final Shelf kept;
    private final Shelf thought;
    private final Study study;
    private final Sheets sheets;
    private final int[] tape;
    private int taped;
    private boolean imaged;

    public HandedWorks() {
        shelf = new Shelf();
        kept = new Shelf();
        thought = new Shelf();
        study = new Study();
        sheets = new Sheets();
        tape = new int[ROOM];
        taped = 0;
        imaged = false;
    }

    // ---- works

    public int feed(int n, int a, int b, int c, int d, int e) {
        if (n < 1 || n > 5 || !isByte(a) || !isByte(b) || !isByte(c) || !isByte(d) || !isByte(e)) {
            return BAD;
        }
        if (n > ROOM - taped) {
            return FULL;
        }
        tapeByte(a, n > 0);
        tapeByte(b, n > 1);
        tapeByte(c, n > 2);
        tapeByte(d, n > 3);
        tapeByte(e, n > 4);
        return taped;
    }

    public int work(int work, int kind, int day) {
        if (!isWork(work) || !isKind(kind) || !isDay(day)) {
            return BAD;
        }
        int n = taped;
        taped = 0;
        if (!isRawText(n)) {
            return STATE;
        }
        shelf.become(work, tape, n);
        shelf.kinds[work] = kind;
        shelf.days[work] = day;
        return n;
    }

    public int splice(int work, int at, int other, int from, int n) {
        if (!isWork(work) || !isWork(other)) {
            return BAD;
        }
        if (isMissing(work) || isMissing(other)) {
            return MISSING;
        }
        int size = shelf.sizeOf(work);
        if (at < 0 || at > size || from < 0 || n < 1 || n > shelf.sizeOf(other) - from) {
            return OUTSIDE;
        }
        if (n > ROOM - size) {
            return FULL;
        }
        shelf.insert(work, at, other, from, n);
        return shelf.sizeOf(work);
    }

    public int cut(int work, int at, int n) {
        if (!isWork(work)) {
            return BAD;
        }
        if (isMissing(work)) {
            return MISSING;
        }
        int size = shelf.sizeOf(work);
        if (at < 0 || n < 1 || n > size - at) {
            return OUTSIDE;
        }
        if (n == size) {
            return STATE;
        }
        shelf.remove(work, at, n);
        return shelf.sizeOf(work);
    }

    public int drop(int work) {
        if (!isWork(work)) {
            return BAD;
        }
        if (isMissing(work)) {
            return MISSING;
        }
        int size = shelf.sizeOf(work);
        shelf.lose(work);
        return size;
    }

    public int alter(int work, int what, int v) {
        if (!isWork(work) || !isOneOf(what, 2)) {
            return BAD;
        }
        if (what == 0 ? !isKind(v) : !isDay(v)) {
            return BAD;
        }
        if (isMissing(work)) {
            return MISSING;
        }
        int[] row = what == 0 ? shelf.kinds : shelf.days;
        int old = row[work];
        row[work] = v;
        return old;
    }

    public int raw(int work, int i) {
        if (!isWork(work)) {
            return BAD;
        }
        if (isMissing(work)) {
            return MISSING;
        }
        if (i == NONE) {
            return shelf.sizeOf(work);
        }
        if (i < 0 || i >= shelf.sizeOf(work)) {
            return OUTSIDE;
        }
        return shelf.byteAt(work, i);
    }

    public int letter(int work, int i, int what) {
        if (!isWork(work) || !isOneOf(what, 2)) {
            return BAD;
        }
        if (isMissing(work)) {
            return MISSING;
        }
        Reading reading = study.reading;
        reading.readLetters(shelf, work);
        if (i == NONE) {
            return reading.letterCount(work);
        }
        if (i < 0 || i >= reading.letterCount(work)) {
            return OUTSIDE;
        }
        return what == 0 ? reading.tellAt(work, i) : reading.placeAt(work, i);
    }

    public int taken(int work, int k) {
        if (!isWork(work) || !isKind(k)) {
            return BAD;
        }
        if (isMissing(work)) {
            return MISSING;
        }
        if (!isUnder(shelf.kinds[work], k)) {
            return UNLIKE;
        }
        study.reading.readLetters(shelf, work);
        return study.reading.unlikePlain(shelf, work);
    }

    // ---- grams, prints

    public int rule(int what, int v) {
        if (!isOneOf(what, RULES) || v < RULE_LEAST[what] || v > RULE_MOST[what]) {
            return BAD;
        }
        int old = shelf.rules[what];
        shelf.rules[what] = v;
        return old;
    }

    public long mark(int work, int i) {
        if (!isWork(work) || isMissing(work)) {
            return NO;
        }
        Reading reading = study.reading;
        reading.readLetters(shelf, work);
        reading.readGrams(work, shelf.rules[K]);
        if (i < 0 || i >= reading.gramCount(work)) {
            return NO;
        }
        return reading.markAt(work, i);
    }

    public int print(int work, int k, int what) {
        if (!isWork(work) || !isOneOf(what, 3)) {
            return BAD;
        }
        if (isMissing(work)) {
            return MISSING;
        }
        study.look(shelf);
        if (k == NONE) {
            return study.reading.printCount(work);
        }
        int gram = study.reading.printAt(work, k);
        if (gram == NONE) {
            return OUTSIDE;
        }
        int form = study.reading.formAt(work, gram);
        if (what == 0) {
            return gram;
        }
        return what == 1 ? study.forms.worksWith(form) : asNumber(study.forms.isCommon(form));
    }

    public int common(int work, int what) {
        if (!isWork(work) || !isOneOf(what, 2)) {
            return BAD;
        }
        if (isMissing(work)) {
            return MISSING;
        }
        study.look(shelf);
        return study.commonGrams(work, what == 1);
    }

    // ---- matches

    public int match(int work, int other, int k, int what) {
        if (!areTwoWorks(work, other) || !isOneOf(what, 4)) {
            return BAD;
        }
        if (isMissing(work) || isMissing(other)) {
            return MISSING;
        }
        Matches matches = study.matches;
        study.compare(shelf, work, other);
        if (k == NONE) {
            return matches.n;
        }
        if (k < 0 || k >= matches.n) {
            return OUTSIDE;
        }
        if (what == 3) {
            matches.linkChain();
        }
        return matches.tellMatch(k, what);
    }

    public int chain(int work, int other, int what) {
        if (!areTwoWorks(work, other) || !isOneOf(what, 3)) {
            return BAD;
        }
        if (isMissing(work) || isMissing(other)) {
            return MISSING;
        }
        Matches matches = study.matches;
        study.compare(shelf, work, other);
        matches.linkChain();
        return what == 1 ? matches.chainedMatches() : matches.lettersOf(what == 0);
    }

    public int like(int work, int other, int part) {
        if (!areTwoWorks(work, other) || !isOneOf(part, 2)) {
            return BAD;
        }
        if (isMissing(work) || isMissing(other)) {
            return MISSING;
        }
        study.look(shelf);
        study.flagPrints(work, other);
        return inLowestTerms(study.forms.flaggedByBoth(), study.forms.flaggedByAny(), part);
    }

    // ---- spans

    public int span(int work, int k, int what) {
        if (!isWork(work) || !isOneOf(what, 3)) {
            return BAD;
        }
        if (isMissing(work)) {
            return MISSING;
        }
        Spans spans = study.spans;
        study.trace(shelf, work);
        if (k == NONE) {
            return spans.n;
        }
        if (k < 0 || k >= spans.n) {
            return OUTSIDE;
        }
        return what == 2 ? spans.sourceOfSpan(k) : study.toldPlace(work, 2 * k + what);
    }

    public int source(int work, int i) {
        if (!isWork(work)) {
            return BAD;
        }
        if (isMissing(work)) {
            return MISSING;
        }
        study.trace(shelf, work);
        if (i < 0 || i >= study.reading.letterCount(work)) {
            return OUTSIDE;
        }
        return study.spans.sourceAt(i, shelf.rules[LEAST]);
    }

    public int share(int work, int what) {
        if (!isWork(work) || !isOneOf(what, 3)) {
            return BAD;
        }
        if (isMissing(work)) {
            return MISSING;
        }
        study.trace(shelf, work);
        if (what == 2) {
            return study.spans.mainSource();
        }
        return tellShare(work, what);
    }

    public int group(int work) {
        if (!isWork(work)) {
            return BAD;
        }
        if (isMissing(work)) {
            return MISSING;
        }
        study.look(shelf);
        study.bindAll(shelf);
        return study.boundTo(work);
    }

    public int without(int work, int other) {
        if (!areTwoWorks(work, other)) {
            return BAD;
        }
        if (isMissing(work) || isMissing(other)) {
            return MISSING;
        }
        thought.take(shelf);
        thought.lose(other);
        study.trace(thought, work);
        return tellShare(work, 0);
    }

    public int drawn(int work, int seed, int n, int what) {
        if (!isWork(work) || n < 0 || n > MOST_DRAWS || !isOneOf(what, 2)) {
            return BAD;
        }
        if (isMissing(work)) {
            return MISSING;
        }
        drawInThought(work, seed, n);
        study.trace(thought, work);
        return tellShare(work, what);
    }

    public int chance(int work, int seed, int m, int share, int part) {
        if (!isWork(work) || m < 1 || m > MOST_SEEDS || share < 0 || share > HUNDRED || !isOneOf(part, 2)) {
            return BAD;
        }
        if (isMissing(work)) {
            return MISSING;
        }
        int reached = 0;
        for (int i = 0; i < m; i++) {
            drawInThought(work, seed + i, CHANCE_DRAWS);
            study.trace(thought, work);
            reached += asNumber(tellShare(work, 1) >= share);
        }
        return inLowestTerms(reached, m, part);
    }

    // ---- what was told

    public int tells(int sheet, int work, int what) {
        if (!isSheet(sheet) || !isWork(work) || !isOneOf(what, 3)) {
            return BAD;
        }
        if (isMissing(work) || sheets.isMissing(sheet)) {
            return MISSING;
        }
        if (sheets.sizeOf(sheet) > MOST_TOLD) {
            return BAD;
        }
        study.trace(shelf, work);
        if (what == 0) {
            return firstOtherwise(sheet, work);
        }
        return what == 1 ? leastTold(sheet, work) : greatestTold(sheet, work);
    }

    public int film(int sheet, int work) {
        if (!isSheet(sheet) || !isWork(work)) {
            return BAD;
        }
        if (isMissing(work)) {
            return MISSING;
        }
        study.trace(shelf, work);
        int n = Math.min(MOST_TOLD, 2 * study.spans.n);
        sheets.become(sheet, BYTES, n);
        for (int i = 0; i < n; i++) {
            sheets.setItem(sheet, i, study.toldPlace(work, i));
        }
        return n;
    }

    public int image() {
        kept.take(shelf);
        imaged = true;
        return shelf.worksThere();
    }

    public int back() {
        if (!imaged) {
            return STATE;
        }
        shelf.take(kept);
        return shelf.worksThere();
    }

    public int count(int what) {
        switch (what) {
            case 0:
                return shelf.worksThere();
            case 1:
                return sumOf(shelf.sizes);
            case 2:
                study.look(shelf);
                return sumOf(study.reading.letters);
            case 3:
                study.look(shelf);
                return study.reading.printsOfAll();
            case 4:
                study.look(shelf);
                return study.forms.n;
            case 5:
                return taped;
            default:
                return BAD;
        }
    }

    // ---- the host

    public int sheet(int sheet, int sort, int n) {
        if (!isSheet(sheet) || sort < NONE || sort > INTS) {
            return BAD;
        }
        if (sort == NONE) {
            sheets.become(sheet, NONE, 0);
            return 1;
        }
        if (n > ITEMS) {
            return BAD;
        }
        if (n < 0) {
            return NEGATIVE;
        }
        sheets.become(sheet, sort, n);
        return 1;
    }

    public int put(int sheet, int i, int v) {
        if (!isSheet(sheet)) {
            return BAD;
        }
        if (sheets.isMissing(sheet)) {
            return MISSING;
        }
        if (i < 0 || i >= sheets.sizeOf(sheet)) {
            return OUTSIDE;
        }
        sheets.setItem(sheet, i, v);
        return 1;
    }

    public int copy(int sheet, int i, int other, int j, int n) {
        if (!isSheet(sheet) || !isSheet(other)) {
            return BAD;
        }
        if (sheets.isMissing(sheet) || sheets.isMissing(other)) {
            return MISSING;
        }
        if (sheets.sortOf(sheet) != sheets.sortOf(other)) {
            return UNLIKE;
        }
        if (n < 0 || i < 0 || j < 0 || n > sheets.sizeOf(sheet) - i || n > sheets.sizeOf(other) - j) {
            return OUTSIDE;
        }
        sheets.move(sheet, i, other, j, n);
        return n;
    }

    // ---- what numbers are

    private static boolean isOneOf(int what, int n) {
        return what >= 0 && what < n;
    }

    private static boolean isWork(int work) {
        return work >= 0 && work < WORKS;
    }

    private static boolean areTwoWorks(int work, int other) {
        return isWork(work) && isWork(other) && work != other;
    }

    private static boolean isKind(int kind) {
        return kind >= 0 && kind < KINDS;
    }

    private static boolean isDay(int day) {
        return day >= 0 && day <= LAST_DAY;
    }

    private static boolean isByte(int v) {
        return v >= 0 && v <= LAST_BYTE;
    }

    private static boolean isSheet(int sheet) {
        return sheet >= 0 && sheet < SHEETS;
    }

    private static boolean isAtoZ(int c) {
        return c >= 'a' && c <= 'z';
    }

    private static boolean isDigit(int c) {
        return c >= '0' && c <= '9';
    }

    private static boolean isRawByte(int c) {
        return isAtoZ(c) || isDigit(c) || c == BLANK || c == LINE_END || c == QUOTE;
    }

    private static boolean isUnder(int kind, int k) {
        int over = kind;
        for (int step = 0; step < KINDS && isKind(over); step++) {
            if (over == k) {
                return true;
            }
            over = OVER[over];
        }
        return false;
    }

    private static int asNumber(boolean yes) {
        return yes ? 1 : 0;
    }

    private static int sumOf(int[] row) {
        int sum = 0;
        for (int v : row) {
            sum += v;
        }
        return sum;
    }

    /** Above the line (part 0) or below it (1); none above is 0 by 1, whatever is below. */
    private static int inLowestTerms(int above, int below, int part) {
        if (above <= 0 || below <= 0) {
            return part == 0 ? 0 : 1;
        }
        int x = above;
        int y = below;
        for (int step = 0; step < CELLS && y != 0; step++) {
            int rest = x % y;
            x = y;
            y = rest;
        }
        return x == 0 ? 0 : (part == 0 ? above : below) / x;
    }

    /** The cell of item i of a work in a row that holds all works side by side; NONE: there is none. */
    private static int cellOf(int work, int i) {
        return work >= 0 && work < WORKS && i >= 0 && i < ROOM ? work * ROOM + i : NONE;
    }

    private static int pick(int[] row, int cell) {
        return cell >= 0 && cell < row.length ? row[cell] : NONE;
    }

    private static void place(int[] row, int cell, int v) {
        if (cell >= 0 && cell < row.length) {
            row[cell] = v;
        }
    }

    // ---- parts of calls

    private boolean isMissing(int work) {
        return shelf.sizeOf(work) <= 0;
    }

    private void tapeByte(int v, boolean asked) {
        if (asked && taped >= 0 && taped < tape.length) {
            tape[taped] = v;
            taped++;
        }
    }

    private boolean isRawText(int n) {
        for (int i = 0; i < n && i < tape.length; i++) {
            if (!isRawByte(tape[i])) {
                return false;
            }
        }
        return n > 0;
    }

    /** SHARE of a work that was traced: how many (what 0), in a hundred (1). */
    private int tellShare(int work, int what) {
        int covered = study.spans.covered;
        int letters = study.reading.letterCount(work);
        if (what == 0) {
            return covered;
        }
        return letters <= 0 ? 0 : HUNDRED * covered / letters;
    }

    private void drawInThought(int work, int seed, int n) {
        thought.take(shelf);
        thought.draw(work, seed, n);
    }

    /** The first number of a sheet that isn't as the spans tell; an end that comes too early counts, too. */
    private int firstOtherwise(int sheet, int work) {
        int due = 2 * study.spans.n;
        int told = sheets.sizeOf(sheet);
        for (int i = 0; i < due || i < told; i++) {
            if (i >= due || i >= told || sheets.itemAt(sheet, i) != study.toldPlace(work, i)) {
                return i;
            }
        }
        return NONE;
    }

    private boolean wouldTell(int sheet, int work, int least) {
        study.spans.divide(least);
        return firstOtherwise(sheet, work) == NONE;
    }

    private int leastTold(int sheet, int work) {
        for (int least = RULE_LEAST[LEAST]; least <= RULE_MOST[LEAST]; least++) {
            if (wouldTell(sheet, work, least)) {
                return least;
            }
        }
        return NONE;
    }

    private int greatestTold(int sheet, int work) {
        for (int least = RULE_MOST[LEAST]; least >= RULE_LEAST[LEAST]; least--) {
            if (wouldTell(sheet, work, least)) {
                return least;
            }
        }
        return NONE;
    }

    /** Works and rules: what an image keeps, and what a thought changes. */
    private static final class Shelf {
        final int[] bytes = new int[CELLS];
        /** How long each raw text is; 0: the work is missing. */
        final int[] sizes = new int[WORKS];
        final int[] kinds = new int[WORKS];
        final int[] days = new int[WORKS];
        final int[] rules = {3, 2, 6, NONE, 4, 50};
        /** What is spliced stands here meanwhile, as a work may be spliced into itself. */
        private final int[] held = new int[ROOM];

        void take(Shelf other) {
            System.arraycopy(other.bytes, 0, bytes, 0, CELLS);
            System.arraycopy(other.sizes, 0, sizes, 0, WORKS);
            System.arraycopy(other.kinds, 0, kinds, 0, WORKS);
            System.arraycopy(other.days, 0, days, 0, WORKS);
            System.arraycopy(other.rules, 0, rules, 0, RULES);
        }

        int sizeOf(int work) {
            return isWork(work) ? sizes[work] : 0;
        }

        int byteAt(int work, int i) {
            return i < sizeOf(work) ? pick(bytes, cellOf(work, i)) : NONE;
        }

        int worksThere() {
            int there = 0;
            for (int size : sizes) {
                there += asNumber(size > 0);
            }
            return there;
        }

        void lose(int work) {
            place(sizes, work, 0);
        }

        void become(int work, int[] row, int n) {
            if (!isWork(work) || n < 0 || n > ROOM || n > row.length) {
                return;
            }
            System.arraycopy(row, 0, bytes, work * ROOM, n);
            sizes[work] = n;
        }

        void insert(int work, int at, int other, int from, int n) {
            int size = sizeOf(work);
            if (!isWork(work) || !isWork(other) || at < 0 || at > size || from < 0) {
                return;
            }
            if (n < 1 || n > sizeOf(other) - from || n > ROOM - size) {
                return;
            }
            int start = work * ROOM + at;
            System.arraycopy(bytes, other * ROOM + from, held, 0, n);
            System.arraycopy(bytes, start, bytes, start + n, size - at);
            System.arraycopy(held, 0, bytes, start, n);
            sizes[work] = size + n;
        }

        void remove(int work, int at, int n) {
            int size = sizeOf(work);
            if (!isWork(work) || at < 0 || n < 1 || n > size - at) {
                return;
            }
            int start = work * ROOM + at;
            System.arraycopy(bytes, start + n, bytes, start, size - at - n);
            sizes[work] = size - n;
        }

        void draw(int work, int seed, int n) {
            int size = sizeOf(work);
            if (size <= 0) {
                return;
            }
            int z = seed;
            for (int i = 0; i < n; i++) {
                z = nextNumber(z);
                int at = (z >>> 9) % size;
                z = nextNumber(z);
                place(bytes, cellOf(work, at), 'a' + (z >>> 9) % 26);
            }
        }

        private static int nextNumber(int z) {
            return z * 1103515245 + 12345;
        }
    }

    /** What counts of a raw byte, and how it is told, by kind. */
    private static final class Kinds {
        static boolean counts(int kind, int ahead, int c, boolean quoted) {
            boolean plain = isAtoZ(c);
            switch (kind) {
                case QUOTING:
                    return plain && !quoted;
                case CODE:
                case RENAMED:
                    return plain || isDigit(c) && !isDigit(ahead);
                case VERSE:
                    return c == LINE_END || plain && !quoted;
                case LOOSE:
                    return plain && !quoted && c != ahead;
                default:
                    return plain;
            }
        }

        /** A byte that counts; a kind that tells digits or line ends as they are would be another one. */
        static int toldAs(int kind, int ahead, int c, int behind) {
            if (isDigit(c)) {
                return '#';
            }
            if (c == LINE_END) {
                return '/';
            }
            if (kind == RENAMED && !isAtoZ(ahead) && !isAtoZ(behind)) {
                return 'v';
            }
            return c;
        }
    }

    /** Letters of works, their grams, marks and prints; a row holds all works side by side. */
    private static final class Reading {
        final int[] letters = new int[WORKS];
        private final int[] grams = new int[WORKS];
        private final int[] told = new int[CELLS];
        private final int[] places = new int[CELLS];
        private final int[] marks = new int[CELLS];
        private final int[] forms = new int[CELLS];
        private final boolean[] prints = new boolean[CELLS];

        void readLetters(Shelf shelf, int work) {
            if (!isWork(work)) {
                return;
            }
            int kind = shelf.kinds[work];
            int size = Math.min(ROOM, shelf.sizeOf(work));
            boolean quoted = false;
            int n = 0;
            for (int i = 0; i < size; i++) {
                int c = shelf.byteAt(work, i);
                int ahead = shelf.byteAt(work, i - 1);
                if (Kinds.counts(kind, ahead, c, quoted)) {
                    place(told, cellOf(work, n), Kinds.toldAs(kind, ahead, c, shelf.byteAt(work, i + 1)));
                    place(places, cellOf(work, n), i);
                    n++;
                }
                if (c == QUOTE) {
                    quoted = !quoted;
                }
            }
            letters[work] = n;
        }

        void readGrams(int work, int k) {
            if (!isWork(work)) {
                return;
            }
            int n = Math.max(0, letters[work] - k + 1);
            for (int g = 0; g < n; g++) {
                int m = 0;
                for (int t = 0; t < k; t++) {
                    m = 31 * m + tellAt(work, g + t);
                }
                place(marks, cellOf(work, g), m);
            }
            grams[work] = n;
        }

        void readPrints(int work, int n) {
            int all = gramCount(work);
            int wide = Math.min(n, all);
            for (int g = 0; g < all; g++) {
                setPrint(work, g, false);
            }
            if (wide <= 0) {
                return;
            }
            for (int from = 0; from <= all - wide; from++) {
                setPrint(work, lastOfLeast(work, from, wide), true);
            }
        }

        private int lastOfLeast(int work, int from, int wide) {
            int least = from;
            for (int g = from + 1; g < from + wide; g++) {
                if (markAt(work, g) <= markAt(work, least)) {
                    least = g;
                }
            }
            return least;
        }

        private void setPrint(int work, int g, boolean yes) {
            int cell = cellOf(work, g);
            if (cell >= 0 && cell < prints.length) {
                prints[cell] = yes;
            }
        }

        int letterCount(int work) {
            return isWork(work) ? letters[work] : 0;
        }

        int gramCount(int work) {
            return isWork(work) ? grams[work] : 0;
        }

        int tellAt(int work, int i) {
            return pick(told, cellOf(work, i));
        }

        int placeAt(int work, int i) {
            return pick(places, cellOf(work, i));
        }

        int markAt(int work, int g) {
            return pick(marks, cellOf(work, g));
        }

        int formAt(int work, int g) {
            return pick(forms, cellOf(work, g));
        }

        void setForm(int work, int g, int form) {
            place(forms, cellOf(work, g), form);
        }

        boolean isPrint(int work, int g) {
            int cell = g < gramCount(work) ? cellOf(work, g) : NONE;
            return cell >= 0 && cell < prints.length && prints[cell];
        }

        int printCount(int work) {
            int n = 0;
            for (int g = 0; g < gramCount(work); g++) {
                n += asNumber(isPrint(work, g));
            }
            return n;
        }

        int printsOfAll() {
            int n = 0;
            for (int work = 0; work < WORKS; work++) {
                n += printCount(work);
            }
            return n;
        }

        /** The gram of the k-th print; NONE: there is no such one. */
        int printAt(int work, int k) {
            int ahead = 0;
            for (int g = 0; g < gramCount(work); g++) {
                if (isPrint(work, g)) {
                    if (ahead == k) {
                        return g;
                    }
                    ahead++;
                }
            }
            return NONE;
        }

        boolean areLikeCells(int cell, int other, int k) {
            for (int t = 0; t < k; t++) {
                if (pick(told, cell + t) != pick(told, other + t)) {
                    return false;
                }
            }
            return true;
        }

        int unlikePlain(Shelf shelf, int work) {
            int unlike = 0;
            for (int i = 0; i < letterCount(work); i++) {
                int plain = shelf.byteAt(work, placeAt(work, i));
                unlike += asNumber(!isAtoZ(plain) || plain != tellAt(work, i));
            }
            return unlike;
        }
    }

    /** The unlike grams of all works, numbered, with what makes them common; found again by their marks. */
    private static final class Forms {
        private static final int HEADS = 64;

        int n = 0;
        private final int[] heads = new int[HEADS];
        private final int[] nexts = new int[CELLS];
        private final int[] firstCells = new int[CELLS];
        private final int[] works = new int[CELLS];
        private final int[] lastWorks = new int[CELLS];
        private final int[] flags = new int[CELLS];
        private final boolean[] based = new boolean[CELLS];
        private int many = 0;

        void number(Reading reading, int[] rules) {
            int base = pick(rules, BASE);
            many = pick(rules, MANY);
            n = 0;
            Arrays.fill(heads, NONE);
            for (int work = 0; work < WORKS; work++) {
                for (int g = 0; g < reading.gramCount(work); g++) {
                    int form = formOf(reading, work, g, pick(rules, K));
                    reading.setForm(work, g, form);
                    seeIn(form, work, base);
                }
            }
        }

        private int formOf(Reading reading, int work, int g, int k) {
            int cell = cellOf(work, g);
            int head = reading.markAt(work, g) & (HEADS - 1);
            int form = heads[head];
            for (int step = 0; step < n && form != NONE; step++) {
                if (reading.areLikeCells(pick(firstCells, form), cell, k)) {
                    return form;
                }
                form = pick(nexts, form);
            }
            return add(head, cell);
        }

        private int add(int head, int cell) {
            if (n < 0 || n >= CELLS || head < 0 || head >= HEADS) {
                return NONE;
            }
            firstCells[n] = cell;
            nexts[n] = heads[head];
            works[n] = 0;
            lastWorks[n] = NONE;
            flags[n] = 0;
            based[n] = false;
            heads[head] = n;
            n++;
            return n - 1;
        }

        private boolean isForm(int form) {
            return form >= 0 && form < n && form < CELLS;
        }

        private void seeIn(int form, int work, int base) {
            if (!isForm(form) || lastWorks[form] == work) {
                return;
            }
            lastWorks[form] = work;
            works[form]++;
            based[form] = based[form] || work == base;
        }

        int worksWith(int form) {
            return isForm(form) ? works[form] : 0;
        }

        boolean isCommon(int form) {
            return isForm(form) && (works[form] >= many || based[form]);
        }

        void flag(int form, int bit) {
            if (isForm(form)) {
                flags[form] |= bit;
            }
        }

        int flaggedByBoth() {
            int all = 0;
            for (int form = 0; form < n && form < CELLS; form++) {
                all += asNumber(flags[form] == 3 && !isCommon(form));
            }
            return all;
        }

        int flaggedByAny() {
            int all = 0;
            for (int form = 0; form < n && form < CELLS; form++) {
                all += asNumber(flags[form] != 0 && !isCommon(form));
            }
            return all;
        }
    }

    /** What of one of two works is matched: its letters, and its prints that may anchor. */
    private static final class Side {
        int n = 0;
        final int[] letters = new int[ROOM];
        /** The form of the gram that begins at a letter, if it is a print and not common; else NONE. */
        final int[] anchors = new int[ROOM];

        void load(Reading reading, Forms forms, int work) {
            n = Math.min(ROOM, reading.letterCount(work));
            for (int i = 0; i < n; i++) {
                int form = reading.isPrint(work, i) ? reading.formAt(work, i) : NONE;
                letters[i] = reading.tellAt(work, i);
                anchors[i] = forms.isCommon(form) ? NONE : form;
            }
        }
    }

    /** The matches of two works, by where they begin, and the chain of them. */
    private static final class Matches {
        /** Each match has two letters or more and an unlike pair behind it: 50 by 50 hold 833 at most. */
        private static final int MOST = 840;

        int n = 0;
        private final Side one = new Side();
        private final Side two = new Side();
        private final int[] begins = new int[MOST];
        private final int[] otherBegins = new int[MOST];
        private final int[] lengths = new int[MOST];
        private final int[] weights = new int[MOST];
        private final int[] nexts = new int[MOST];
        private final boolean[] chained = new boolean[MOST];
        /** 1: the letter lies in a match that was looked at. */
        private final int[] seen = new int[ROOM];

        void find(Reading reading, Forms forms, int work, int other, int least) {
            n = 0;
            one.load(reading, forms, work);
            two.load(reading, forms, other);
            for (int i = 0; i < one.n && i < ROOM; i++) {
                for (int j = 0; j < two.n && j < ROOM; j++) {
                    if (one.letters[i] == two.letters[j] && isBegin(i, j)) {
                        addRun(i, j, least);
                    }
                }
            }
        }

        private boolean isBegin(int i, int j) {
            return i < 1 || j < 1 || pick(one.letters, i - 1) != pick(two.letters, j - 1);
        }

        private void addRun(int i, int j, int least) {
            int room = Math.min(one.n - i, two.n - j);
            boolean anchored = false;
            int length = 0;
            while (length < room && pick(one.letters, i + length) == pick(two.letters, j + length)) {
                int anchor = pick(one.anchors, i + length);
                anchored = anchored || anchor != NONE && anchor == pick(two.anchors, j + length);
                length++;
            }
            if (anchored && length >= least && n >= 0 && n < MOST) {
                begins[n] = i;
                otherBegins[n] = j;
                lengths[n] = length;
                chained[n] = false;
                n++;
            }
        }

        /** From the last match to the first, as a weight is that of the heaviest row that begins with it. */
        void linkChain() {
            int top = NONE;
            for (int m = Math.min(n, MOST) - 1; m >= 0; m--) {
                int next = heaviestBehind(m);
                nexts[m] = next;
                weights[m] = lengths[m] + Math.max(0, pick(weights, next));
                if (top == NONE || weights[m] >= pick(weights, top)) {
                    top = m;
                }
            }
            for (int step = 0; step < n && top >= 0 && top < MOST; step++) {
                chained[top] = true;
                top = nexts[top];
            }
        }

        private int heaviestBehind(int m) {
            int best = NONE;
            int heaviest = 0;
            int end = pick(begins, m) + pick(lengths, m);
            int otherEnd = pick(otherBegins, m) + pick(lengths, m);
            for (int next = m + 1; next < n && next < MOST; next++) {
                if (weights[next] > heaviest && begins[next] >= end && otherBegins[next] >= otherEnd) {
                    best = next;
                    heaviest = weights[next];
                }
            }
            return best;
        }

        int tellMatch(int m, int what) {
            switch (what) {
                case 0:
                    return pick(begins, m);
                case 1:
                    return pick(otherBegins, m);
                case 2:
                    return lengthOf(m);
                default:
                    return asNumber(isChained(m));
            }
        }

        int beginOf(int m) {
            return pick(begins, m);
        }

        int lengthOf(int m) {
            return pick(lengths, m);
        }

        private boolean isChained(int m) {
            return m >= 0 && m < MOST && chained[m];
        }

        int chainedMatches() {
            int all = 0;
            for (int m = 0; m < n; m++) {
                all += asNumber(isChained(m));
            }
            return all;
        }

        int lettersOf(boolean inChain) {
            int all = 0;
            for (int m = 0; m < n; m++) {
                if (isChained(m) == inChain) {
                    all += lengthOf(m);
                }
            }
            return all;
        }

        int lettersSeen() {
            return lettersIn(begins);
        }

        int otherLettersSeen() {
            return lettersIn(otherBegins);
        }

        /** Letters that lie in several matches are one each. */
        private int lettersIn(int[] from) {
            Arrays.fill(seen, 0);
            int all = 0;
            for (int m = 0; m < n; m++) {
                int begin = Math.max(0, pick(from, m));
                int end = Math.min(ROOM, begin + lengthOf(m));
                for (int i = begin; i < end; i++) {
                    all += 1 - seen[i];
                    seen[i] = 1;
                }
            }
            return all;
        }
    }

    /** Whence the letters of one work come. */
    private static final class Spans {
        int n = 0;
        int covered = 0;
        private int letters = 0;
        private final int[] longest = new int[ROOM];
        private final int[] sources = new int[ROOM];
        private final int[] firsts = new int[ROOM];
        private final int[] lasts = new int[ROOM];
        private final int[] origins = new int[ROOM];
        private final int[] tally = new int[WORKS];

        void begin(int letterCount) {
            letters = Math.min(ROOM, letterCount);
            Arrays.fill(longest, 0);
            Arrays.fill(sources, NONE);
        }

        /** Works come by number, so of like ones the first stays. */
        void offer(Matches matches, int other, int[] days) {
            for (int m = 0; m < matches.n; m++) {
                int length = matches.lengthOf(m);
                int begin = Math.max(0, matches.beginOf(m));
                int end = Math.min(letters, begin + length);
                for (int i = begin; i < end && i < ROOM; i++) {
                    if (isBetter(length, other, i, days)) {
                        longest[i] = length;
                        sources[i] = other;
                    }
                }
            }
        }

        private boolean isBetter(int length, int other, int i, int[] days) {
            if (length != longest[i]) {
                return length > longest[i];
            }
            return pick(days, other) < pick(days, sources[i]);
        }

        /** The longest match goes last when the least length grows, so each letter keeps one source till then. */
        int sourceAt(int i, int least) {
            return i >= 0 && i < letters && i < ROOM && longest[i] >= least ? sources[i] : NONE;
        }

        void divide(int least) {
            int ahead = NONE;
            n = 0;
            covered = 0;
            Arrays.fill(tally, 0);
            for (int i = 0; i < letters; i++) {
                int source = sourceAt(i, least);
                if (isWork(source)) {
                    covered++;
                    tally[source]++;
                    extend(i, source, source == ahead);
                }
                ahead = source;
            }
        }

        private void extend(int i, int source, boolean goesOn) {
            if (!goesOn && n < ROOM) {
                firsts[n] = i;
                origins[n] = source;
                n++;
            }
            place(lasts, n - 1, i);
        }

        int firstOfSpan(int k) {
            return pick(firsts, k);
        }

        int lastOfSpan(int k) {
            return pick(lasts, k);
        }

        int sourceOfSpan(int k) {
            return pick(origins, k);
        }

        int mainSource() {
            int main = NONE;
            int most = 0;
            for (int work = 0; work < WORKS; work++) {
                if (tally[work] > most) {
                    main = work;
                    most = tally[work];
                }
            }
            return main;
        }
    }

    /** All that is read out of a shelf; it holds of the shelf looked at last. */
    private static final class Study {
        final Reading reading = new Reading();
        final Forms forms = new Forms();
        final Matches matches = new Matches();
        final Spans spans = new Spans();
        /** To which works, as bits, each one is bound. */
        private final int[] bonds = new int[WORKS];

        void look(Shelf shelf) {
            for (int work = 0; work < WORKS; work++) {
                reading.readLetters(shelf, work);
                reading.readGrams(work, pick(shelf.rules, K));
                reading.readPrints(work, pick(shelf.rules, N));
            }
            forms.number(reading, shelf.rules);
        }

        void compare(Shelf shelf, int work, int other) {
            look(shelf);
            matches.find(reading, forms, work, other, pick(shelf.rules, LEAST));
        }

        void trace(Shelf shelf, int work) {
            look(shelf);
            spans.begin(reading.letterCount(work));
            for (int other = 0; other < WORKS; other++) {
                if (other != work) {
                    matches.find(reading, forms, work, other, RULE_LEAST[LEAST]);
                    spans.offer(matches, other, shelf.days);
                }
            }
            spans.divide(pick(shelf.rules, LEAST));
        }

        /** Number i of those that the spans of a work tell: raw places of first and last letters by turn. */
        int toldPlace(int work, int i) {
            int k = i / 2;
            return reading.placeAt(work, i % 2 == 0 ? spans.firstOfSpan(k) : spans.lastOfSpan(k));
        }

        int commonGrams(int work, boolean printsAlone) {
            int all = 0;
            for (int g = 0; g < reading.gramCount(work); g++) {
                boolean asked = !printsAlone || reading.isPrint(work, g);
                all += asNumber(asked && forms.isCommon(reading.formAt(work, g)));
            }
            return all;
        }

        void flagPrints(int work, int other) {
            flagPrintsOf(work, 1);
            flagPrintsOf(other, 2);
        }

        private void flagPrintsOf(int work, int bit) {
            for (int g = 0; g < reading.gramCount(work); g++) {
                if (reading.isPrint(work, g)) {
                    forms.flag(reading.formAt(work, g), bit);
                }
            }
        }

        void bindAll(Shelf shelf) {
            int least = pick(shelf.rules, LEAST);
            int limit = pick(shelf.rules, LIMIT);
            Arrays.fill(bonds, 0);
            for (int work = 0; work < WORKS; work++) {
                for (int other = work + 1; other < WORKS; other++) {
                    matches.find(reading, forms, work, other, least);
                    if (isEnough(matches.lettersSeen(), work, limit)
                            || isEnough(matches.otherLettersSeen(), other, limit)) {
                        bonds[work] |= 1 << other;
                        bonds[other] |= 1 << work;
                    }
                }
            }
        }

        private boolean isEnough(int matched, int work, int limit) {
            return matched > 0 && HUNDRED * matched >= limit * reading.letterCount(work);
        }

        int boundTo(int work) {
            int bits = 1 << work;
            for (int step = 0; step < WORKS; step++) {
                for (int one = 0; one < WORKS; one++) {
                    if ((bits >> one & 1) == 1) {
                        bits |= bonds[one];
                    }
                }
            }
            return bits;
        }
    }

    /** The host's rows of numbers. */
    private static final class Sheets {
        private final int[] items = new int[SHEETS * ITEMS];
        private final int[] sizes = new int[SHEETS];
        private final int[] sorts = {NONE, NONE, NONE, NONE};

        boolean isMissing(int sheet) {
            return sortOf(sheet) == NONE;
        }

        int sortOf(int sheet) {
            return pick(sorts, sheet);
        }

        int sizeOf(int sheet) {
            return sheet >= 0 && sheet < SHEETS ? sizes[sheet] : 0;
        }

        void become(int sheet, int sort, int n) {
            if (isSheet(sheet) && n >= 0 && n <= ITEMS) {
                sorts[sheet] = sort;
                sizes[sheet] = n;
                Arrays.fill(items, sheet * ITEMS, (sheet + 1) * ITEMS, 0);
            }
        }

        private int itemCell(int sheet, int i) {
            return i >= 0 && i < sizeOf(sheet) ? sheet * ITEMS + i : NONE;
        }

        int itemAt(int sheet, int i) {
            return pick(items, itemCell(sheet, i));
        }

        void setItem(int sheet, int i, int v) {
            place(items, itemCell(sheet, i), sortOf(sheet) == BYTES ? v & LAST_BYTE : v);
        }

        void move(int sheet, int i, int other, int j, int n) {
            if (n < 0 || i < 0 || j < 0 || n > sizeOf(sheet) - i || n > sizeOf(other) - j) {
                return;
            }
            if (isSheet(sheet) && isSheet(other)) {
                System.arraycopy(items, sheet * ITEMS + i, items, other * ITEMS + j, n);
            }
        }
    }
}
