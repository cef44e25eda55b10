/**
 * One bank of registers: rows of numbers, of boxes and of labels, read and
 * written through views of other kinds. See README.md for how to use it.
 */
public final class ViewedBank {
    public static final int NONE = -1, BAD = -2, STATE = -3, FULL = -4;
    public static final long NO = Long.MIN_VALUE;

    private static final int NOTHING = -11, KIND = -12, PLACE = -13, SIZE = -14;
    private static final int DONE = 1, ABSENT = -5;

    private static final int SLOTS = 10, WINDOWS = 6, MOST_CELLS = 32;
    private static final int MOST_LETTERS = 9, TAPE_ROOM = 120, MOST_LINES = 20;
    private static final int KEPT_ACTS = 24, MOST_PUTS = 2 * MOST_CELLS;
    private static final int MOST_DIGITS = 19;
    // A letter, then for each cell a blank, a minus and the digits.
    private static final int PAPER_ROOM = 1 + MOST_CELLS * (2 + MOST_DIGITS);

    private static final int BITS = 0, BYTES = 1, SIGNS = 2, SHORTS = 3, INTS = 4, LONGS = 5;
    private static final int FLOATS = 6, DOUBLES = 7;
    // Kinds of rows beyond numbers.
    private static final int BOXES = 8, LABELS = 9;
    // Kinds of boxes beyond numbers.
    private static final int MISSING = 8, LABEL = 9, WORD = 10;
    // What a slot holds, beside the kind of a row.
    private static final int EMPTY = -1, LABEL_THING = 10, WORD_THING = 11;
    private static final int AS_IT_IS = 8;

    private static final int FROM_LEAST = -9, FROM_MOST = 40, STEP_MOST = 3;
    private static final int FIRST_REFUSAL_COUNT = 11, REFUSALS = 3;

    private final Box latch = new Box();
    private final Box given = new Box();
    private final Box against = new Box();
    private final long[] numbersRead = new long[MOST_CELLS];
    private final int[] kindsRead = new int[MOST_CELLS];
    private final int[] refusals = new int[REFUSALS];
    private final Journal journal = new Journal();
    private final Tape tape = new Tape();
    private final Paper sheet = new Paper();
    private Bank bank = new Bank();
    private Bank kept = null;
    private boolean stopped = false;
    private int stopPlace = 0;
    private int stopSide = 0;
    private int stopRefusal = 0;

    public ViewedBank() {
    }

    // ---- slots

    public int make(int slot, int kind, int n) {
        if (!isSlot(slot)) {
            return NONE;
        }
        if (kind < BITS || kind > LABELS || n > MOST_CELLS) {
            return BAD;
        }
        if (n < 0) {
            return SIZE;
        }
        Row before = bank.rowAt(slot);
        bank.holdRow(slot, new Row(kind, n));
        release(before);
        return DONE;
    }

    public int thing(int slot, int what, int number) {
        if (!isSlot(slot)) {
            return NONE;
        }
        if (what < -1 || what > 1 || (what == 1 && !isWordLength(number))) {
            return BAD;
        }
        Row before = bank.rowAt(slot);
        if (what == -1) {
            bank.holdThing(slot, EMPTY, 0);
        } else {
            bank.holdThing(slot, what == 0 ? LABEL_THING : WORD_THING, number);
        }
        release(before);
        return DONE;
    }

    public int same(int slot, int other) {
        if (!isSlot(slot) || !isSlot(other)) {
            return NONE;
        }
        Row before = bank.rowAt(slot);
        bank.holdWhatIsIn(slot, other);
        release(before);
        return DONE;
    }

    public int of(int slot, int what) {
        if (!isSlot(slot) || what < 0 || what > 4) {
            return NONE;
        }
        if (what == 0) {
            return bank.heldBy(slot);
        }
        Row row = bank.rowAt(slot);
        if (row == null) {
            return bank.whyNoRow(slot);
        }
        switch (what) {
            case 1: return row.size();
            case 2: return bank.holdersOf(row);
            case 3: return row.touchedCells();
            default: return row.firstTouched();
        }
    }

    // ---- cells

    public int read(int slot, int i, int view) {
        if (!isSlot(slot) || !isView(view)) {
            return NONE;
        }
        return counted(readCell(slot, i, view, latch));
    }

    public long latch(int what) {
        switch (what) {
            case 0: return latch.kind;
            case 1: return latch.value;
            case 2: return Kinds.hasAmount(latch.kind) ? Kinds.amount(latch.kind, latch.value) : NO;
            default: return NO;
        }
    }

    public int write(int slot, int i, int view, long v) {
        if (!isSlot(slot) || !isNumberKind(view)) {
            return NONE;
        }
        given.become(view, Kinds.numberBy(view, v));
        return settledAlone(putCell(slot, i, view, given));
    }

    public int real(int slot, int i, int view, int above, int below) {
        if (!isSlot(slot) || (view != FLOATS && view != DOUBLES)) {
            return NONE;
        }
        if (below == 0) {
            return BAD;
        }
        given.become(view, Kinds.quotient(view, above, below));
        return settledAlone(putCell(slot, i, view, given));
    }

    public int box(int slot, int i, int kind, long v) {
        if (!isSlot(slot) || !isBoxKind(kind)) {
            return NONE;
        }
        if (!isBoxable(kind, v)) {
            return BAD;
        }
        given.become(kind, Kinds.numberBy(kind, v));
        return settledAlone(putCell(slot, i, AS_IT_IS, given));
    }

    // ---- windows

    public int window(int window, int slot, int from, int step, int many, int view) {
        Window seen = bank.windowAt(window);
        if (seen == null || !isSlot(slot)) {
            return NONE;
        }
        if (from < FROM_LEAST || from > FROM_MOST || step < -STEP_MOST || step > STEP_MOST
                || many < 0 || many > MOST_CELLS || !isView(view)) {
            return BAD;
        }
        seen.become(slot, from, step, many, view);
        return DONE;
    }

    public int windowOf(int window, int what) {
        Window seen = bank.windowAt(window);
        if (seen == null) {
            return NONE;
        }
        switch (what) {
            case 0: return seen.slot;
            case 1: return seen.from;
            case 2: return seen.step;
            case 3: return seen.many;
            case 4: return seen.view;
            default: return NONE;
        }
    }

    public int look(int window, int j) {
        Window seen = bank.windowAt(window);
        if (seen == null) {
            return NONE;
        }
        return counted(readThrough(seen, j, seen.view, latch));
    }

    public long sum(int window) {
        Window seen = bank.windowAt(window);
        if (seen == null || faultPlace(seen) != ABSENT) {
            return NO;
        }
        long total = 0L;
        for (int j = 0; j < seen.many; j++) {
            if (readThrough(seen, j, seen.view, given) == DONE) {
                total = total + Kinds.amount(given.kind, given.value);
            }
        }
        return total;
    }

    public int fault(int window, int what) {
        Window seen = bank.windowAt(window);
        if (seen == null || what < 0 || what > 1) {
            return NONE;
        }
        int place = faultPlace(seen);
        if (what == 0 || place == ABSENT) {
            return place;
        }
        return whyNoAmount(seen, place);
    }

    public int least(int window, int i) {
        Window seen = bank.windowAt(window);
        if (seen == null || i < 0) {
            return NONE;
        }
        if (seen.view == AS_IT_IS) {
            return BAD;
        }
        int place = faultPlace(seen);
        if (place != ABSENT) {
            return whyNoAmount(seen, place);
        }
        int many = rankCells(seen);
        for (int j = 0; j < many; j++) {
            if (cellsAheadOf(j, many) == i) {
                return j;
            }
        }
        return ABSENT;
    }

    public int find(int window, int j, int kind, long v) {
        Window seen = bank.windowAt(window);
        if (seen == null || j < 0 || !isBoxKind(kind)) {
            return NONE;
        }
        if (!isBoxable(kind, v)) {
            return BAD;
        }
        against.become(kind, Kinds.numberBy(kind, v));
        for (int k = j; k < seen.many; k++) {
            if (readThrough(seen, k, seen.view, given) == DONE && Kinds.areAlike(given, against)) {
                return k;
            }
        }
        return ABSENT;
    }

    // ---- moves

    public int copy(int window, int other, int how) {
        Window from = bank.windowAt(window);
        Window to = bank.windowAt(other);
        if (from == null || to == null || how < 0 || how > 1) {
            return NONE;
        }
        return how == 0 ? copyInTurn(from, to) : copyAtOnce(from, to);
    }

    public int swap(int window, int other) {
        Window first = bank.windowAt(window);
        Window second = bank.windowAt(other);
        if (first == null || second == null) {
            return NONE;
        }
        for (int j = 0; j < first.many; j++) {
            int answer = swapCells(first, second, j);
            if (answer != DONE) {
                return answer;
            }
        }
        return settledMove(first.many);
    }

    public int fill(int window, int kind, long v) {
        Window seen = bank.windowAt(window);
        if (seen == null || !isBoxKind(kind)) {
            return NONE;
        }
        if (!isBoxable(kind, v)) {
            return BAD;
        }
        given.become(kind, Kinds.numberBy(kind, v));
        for (int j = 0; j < seen.many; j++) {
            int told = putThrough(seen, j, AS_IT_IS, given);
            if (told != DONE) {
                return refusedMove(j, 1, told);
            }
        }
        return settledMove(seen.many);
    }

    public int stop(int what) {
        if (what < 0 || what > 2) {
            return NONE;
        }
        if (!stopped) {
            return STATE;
        }
        switch (what) {
            case 0: return stopPlace;
            case 1: return stopSide;
            default: return stopRefusal;
        }
    }

    // ---- the journal

    public int undo() {
        return journal.takeBackLatest();
    }

    public int redo() {
        return journal.doLatestAgain();
    }

    public int act(int i, int what) {
        Act act = journal.actAt(i);
        if (act == null) {
            return NONE;
        }
        return what == 0 ? act.size() : act.placeOf(what - 10);
    }

    // ---- in thought

    public int views(int slot) {
        if (!isSlot(slot)) {
            return NONE;
        }
        Row row = bank.rowAt(slot);
        if (row == null) {
            return bank.whyNoRow(slot);
        }
        int seen = 1 << AS_IT_IS;
        for (int view = BITS; view <= DOUBLES; view++) {
            if (Kinds.mayBeViewed(row.kind, view)) {
                seen = seen | (1 << view);
            }
        }
        return seen;
    }

    public int takes(int slot, int kind) {
        if (!isSlot(slot) || !isBoxKind(kind)) {
            return NONE;
        }
        Row row = bank.rowAt(slot);
        if (row == null) {
            return bank.whyNoRow(slot);
        }
        return row.admits(kind) ? 1 : 0;
    }

    public int exact(int slot, int view) {
        if (!isSlot(slot) || !isNumberKind(view)) {
            return NONE;
        }
        Row row = bank.rowAt(slot);
        if (row == null) {
            return bank.whyNoRow(slot);
        }
        if (!Kinds.mayBeViewed(row.kind, view)) {
            return KIND;
        }
        int many = 0;
        for (int i = 0; i < row.size(); i++) {
            long value = row.valueAt(i);
            long viewed = Kinds.viewed(row.kind, value, view);
            if (Kinds.amount(row.kind, value) == Kinds.amount(view, viewed)) {
                many++;
            }
        }
        return many;
    }

    public int alike(int slot, int other) {
        if (!isSlot(slot) || !isSlot(other)) {
            return NONE;
        }
        if (bank.heldBy(slot) == EMPTY || bank.heldBy(other) == EMPTY) {
            return NOTHING;
        }
        Row first = bank.rowAt(slot);
        Row second = bank.rowAt(other);
        if (first == null || second == null) {
            return KIND;
        }
        return firstUnlike(first, second);
    }

    public long digest(int slot) {
        if (isSlot(slot)) {
            return digestOf(slot);
        }
        if (slot != -1) {
            return NO;
        }
        long z = 1L;
        for (int s = 0; s < SLOTS; s++) {
            z = 31L * z + digestOf(s);
        }
        return z;
    }

    public int spell(int slot) {
        if (!isSlot(slot)) {
            return NONE;
        }
        Row row = bank.rowAt(slot);
        if (row == null) {
            return bank.whyNoRow(slot);
        }
        sheet.become(row);
        return sheet.length;
    }

    public int paper(int i) {
        return sheet.letterAt(i);
    }

    // ---- texts, the image

    public int feed(int letter) {
        if (letter < 1 || letter > 127) {
            return BAD;
        }
        return tape.lengthened(letter);
    }

    public int run() {
        boolean isText = tape.isText();
        tape.length = 0;
        if (!isText) {
            return -1000 - tape.at;
        }
        for (int k = 0; k < tape.lineCount; k++) {
            Line line = tape.lineAt(k);
            if (line == null) {
                break;
            }
            int answer = line.reads ? runReading(line, k) : runBoxing(line, k);
            if (answer != DONE) {
                return answer;
            }
        }
        return settledMove(tape.lineCount);
    }

    public int image() {
        kept = bank.copied();
        return bank.unlikeRows();
    }

    public int back() {
        if (kept == null) {
            return STATE;
        }
        bank = kept.copied();
        journal.clear();
        return bank.unlikeRows();
    }

    public int count(int what) {
        switch (what) {
            case 0: return bank.slotsWithRows();
            case 1: return bank.slotsWithThings();
            case 2: return bank.unlikeRows();
            case 3: return bank.cellsOfUnlikeRows();
            case 4: return journal.doneCount;
            case 5: return journal.allCount - journal.doneCount;
            case 6: return tape.length;
            case 7: return sheet.length;
            case 8: return bank.touchedCells();
            default: return refusalCount(what - FIRST_REFUSAL_COUNT);
        }
    }

    // ---- what arguments may be

    private static boolean isSlot(int slot) {
        return slot >= 0 && slot < SLOTS;
    }

    private static boolean isView(int view) {
        return view >= BITS && view <= AS_IT_IS;
    }

    private static boolean isNumberKind(int kind) {
        return kind >= BITS && kind <= DOUBLES;
    }

    private static boolean isBoxKind(int kind) {
        return kind >= BITS && kind <= WORD;
    }

    private static boolean isWordLength(long v) {
        return v >= 0L && v <= MOST_LETTERS;
    }

    private static boolean isBoxable(int kind, long v) {
        return kind != WORD || isWordLength(v);
    }

    // ---- single cells

    private int readCell(int slot, int i, int view, Box into) {
        Row row = bank.rowAt(slot);
        if (row == null) {
            return bank.whyNoRow(slot);
        }
        if (view != AS_IT_IS && row.kind >= BOXES) {
            return KIND;
        }
        if (!row.has(i)) {
            return PLACE;
        }
        if (view == AS_IT_IS) {
            into.become(row.kindAt(i), row.valueAt(i));
            return DONE;
        }
        if (!Kinds.mayBeViewed(row.kind, view)) {
            return KIND;
        }
        into.become(view, Kinds.viewed(row.kind, row.valueAt(i), view));
        return DONE;
    }

    /** Puts a box into a cell: boxed by the view 8, written by a number's view. */
    private int putCell(int slot, int i, int view, Box what) {
        Row row = bank.rowAt(slot);
        if (row == null) {
            return bank.whyNoRow(slot);
        }
        if (view != AS_IT_IS && row.kind >= BOXES) {
            return KIND;
        }
        if (row.kind < BOXES && what.kind == MISSING) {
            return KIND;
        }
        if (!row.has(i)) {
            return PLACE;
        }
        if (!row.admits(what.kind)) {
            return KIND;
        }
        if (row.kind < BOXES) {
            journal.put(row, i, row.kind, Kinds.viewed(what.kind, what.value, row.kind));
        } else {
            journal.put(row, i, what.kind, what.value);
        }
        return DONE;
    }

    private int counted(int told) {
        int which = NOTHING - told;
        if (which >= 0 && which < refusals.length) {
            refusals[which]++;
        }
        return told;
    }

    private int refusalCount(int which) {
        return which >= 0 && which < refusals.length ? refusals[which] : NONE;
    }

    private int settledAlone(int told) {
        journal.settle();
        return counted(told);
    }

    private void release(Row row) {
        if (row != null && bank.holdersOf(row) == 0) {
            journal.forget(row);
        }
    }

    // ---- cells of windows

    private int readThrough(Window seen, int j, int view, Box into) {
        return seen.has(j) ? readCell(seen.slot, seen.placeOf(j), view, into) : PLACE;
    }

    private int putThrough(Window seen, int j, int view, Box what) {
        return seen.has(j) ? putCell(seen.slot, seen.placeOf(j), view, what) : PLACE;
    }

    private int whyNoAmount(Window seen, int j) {
        int told = readThrough(seen, j, seen.view, given);
        if (told != DONE) {
            return told;
        }
        return Kinds.hasAmount(given.kind) ? DONE : KIND;
    }

    private int faultPlace(Window seen) {
        for (int j = 0; j < seen.many; j++) {
            if (whyNoAmount(seen, j) != DONE) {
                return j;
            }
        }
        return ABSENT;
    }

    private int rankCells(Window seen) {
        int many = 0;
        for (int j = 0; j < seen.many && j < numbersRead.length; j++) {
            if (readThrough(seen, j, seen.view, given) == DONE) {
                numbersRead[j] = Kinds.rank(given.kind, given.value);
                many++;
            }
        }
        return many;
    }

    private int cellsAheadOf(int j, int many) {
        int ahead = 0;
        if (j < 0 || j >= numbersRead.length) {
            return ahead;
        }
        long rank = numbersRead[j];
        for (int k = 0; k < many && k < numbersRead.length; k++) {
            if (numbersRead[k] < rank || (numbersRead[k] == rank && k < j)) {
                ahead++;
            }
        }
        return ahead;
    }

    // ---- moves

    private int refusedMove(int j, int side, int refusal) {
        journal.takeBackPending();
        stopped = true;
        stopPlace = j;
        stopSide = side;
        stopRefusal = refusal;
        return -100 - j;
    }

    private int settledMove(int answer) {
        journal.settle();
        return answer;
    }

    private int copyInTurn(Window from, Window to) {
        for (int j = 0; j < from.many; j++) {
            int told = readThrough(from, j, from.view, given);
            if (told != DONE) {
                return refusedMove(j, 0, told);
            }
            told = putThrough(to, j, from.view, given);
            if (told != DONE) {
                return refusedMove(j, 1, told);
            }
        }
        return settledMove(from.many);
    }

    private int copyAtOnce(Window from, Window to) {
        for (int j = 0; j < from.many && j < MOST_CELLS; j++) {
            int told = readThrough(from, j, from.view, given);
            if (told != DONE) {
                return refusedMove(j, 0, told);
            }
            kindsRead[j] = given.kind;
            numbersRead[j] = given.value;
        }
        for (int j = 0; j < from.many && j < MOST_CELLS; j++) {
            given.become(kindsRead[j], numbersRead[j]);
            int told = putThrough(to, j, from.view, given);
            if (told != DONE) {
                return refusedMove(j, 1, told);
            }
        }
        return settledMove(from.many);
    }

    private int swapCells(Window first, Window second, int j) {
        int told = readThrough(first, j, AS_IT_IS, given);
        if (told != DONE) {
            return refusedMove(j, 0, told);
        }
        told = readThrough(second, j, AS_IT_IS, against);
        if (told != DONE) {
            return refusedMove(j, 1, told);
        }
        told = putThrough(second, j, AS_IT_IS, given);
        if (told != DONE) {
            return refusedMove(j, 2, told);
        }
        told = putThrough(first, j, AS_IT_IS, against);
        if (told != DONE) {
            return refusedMove(j, 3, told);
        }
        return DONE;
    }

    private int runReading(Line line, int k) {
        int told = readCell(line.source, line.sourcePlace, line.view, given);
        if (told != DONE) {
            return refusedMove(k, 0, told);
        }
        told = putCell(line.slot, line.place, line.view, given);
        return told == DONE ? DONE : refusedMove(k, 1, told);
    }

    private int runBoxing(Line line, int k) {
        given.become(line.kind, Kinds.numberBy(line.kind, line.number));
        int told = putCell(line.slot, line.place, AS_IT_IS, given);
        return told == DONE ? DONE : refusedMove(k, 1, told);
    }

    // ---- in thought

    private int firstUnlike(Row first, Row second) {
        int shorter = Math.min(first.size(), second.size());
        for (int i = 0; i < shorter; i++) {
            given.become(first.kindAt(i), first.valueAt(i));
            against.become(second.kindAt(i), second.valueAt(i));
            if (!Kinds.areAlike(given, against)) {
                return i;
            }
        }
        return first.size() == second.size() ? ABSENT : shorter;
    }

    private long digestOf(int slot) {
        long z = 7L;
        Row row = bank.rowAt(slot);
        if (row != null) {
            z = 31L * z + 3L + row.kind;
            z = 31L * z + row.size();
            for (int i = 0; i < row.size(); i++) {
                z = 31L * z + row.kindAt(i);
                z = 31L * z + row.valueAt(i);
            }
            return z;
        }
        if (bank.heldBy(slot) == EMPTY) {
            return 31L * z + 1L;
        }
        z = 31L * z + 2L;
        return 31L * z + bank.numberAt(slot);
    }

    /** A box: its kind and its value (of floats and doubles: their bits). */
    private static final class Box {
        int kind = MISSING;
        long value = 0L;

        void become(int newKind, long newValue) {
            kind = newKind;
            value = newValue;
        }
    }

    /**
     * What numbers of the kinds are to one another. Floats and doubles are
     * kept as their bits, so that one long holds a cell of any kind.
     */
    private static final class Kinds {
        // Bit v of entry k: kind k may be viewed as kind v.
        private static final int[] VIEWED_AS = {1, 250, 244, 248, 240, 224, 192, 128};
        private static final int DOUBLE_FRACTION = 52, FLOAT_FRACTION = 23;
        private static final int DOUBLE_BIAS = 1023, FLOAT_BIAS = 127;
        private static final long DOUBLE_FRACTION_MASK = (1L << DOUBLE_FRACTION) - 1L;
        private static final long FLOAT_FRACTION_MASK = (1L << FLOAT_FRACTION) - 1L;

        static boolean mayBeViewed(int kind, int view) {
            if (kind < 0 || kind >= VIEWED_AS.length || view < 0 || view >= VIEWED_AS.length) {
                return false;
            }
            return ((VIEWED_AS[kind] >> view) & 1) == 1;
        }

        /** The value of a number of a kind, as viewed by a kind that it may be viewed as. */
        static long viewed(int kind, long value, int view) {
            if (view == kind || view < FLOATS) {
                return value;
            }
            if (view == FLOATS) {
                return narrowed(doubleBits((double) (float) value));
            }
            return kind == FLOATS ? widened(value) : doubleBits((double) value);
        }

        static long numberBy(int kind, long v) {
            switch (kind) {
                case BITS: return v != 0L ? 1L : 0L;
                case BYTES: return (byte) v;
                case SIGNS: return (char) v;
                case SHORTS: return (short) v;
                case INTS: return (int) v;
                case FLOATS: return narrowed(doubleBits((double) (float) v));
                case DOUBLES: return doubleBits((double) v);
                case MISSING: return 0L;
                case LABEL: return (int) v;
                default: return v;
            }
        }

        static long quotient(int kind, int above, int below) {
            if (above == 0 || below == 0) {
                return zero(kind, below < 0);
            }
            if (kind == FLOATS) {
                return narrowed(doubleBits((double) ((float) above / (float) below)));
            }
            return doubleBits((double) above / (double) below);
        }

        static boolean hasAmount(int kind) {
            return kind >= BITS && kind <= DOUBLES;
        }

        static long amount(int kind, long value) {
            if (kind == FLOATS || kind == DOUBLES) {
                return cutToWhole(doubleBitsOf(kind, value));
            }
            return value;
        }

        /** A long that orders the numbers of one kind; -0.0 and 0.0 have the same. */
        static long rank(int kind, long value) {
            if (value < 0L && kind == FLOATS) {
                return -(value & Integer.MAX_VALUE);
            }
            if (value < 0L && kind == DOUBLES) {
                return -(value & Long.MAX_VALUE);
            }
            return value;
        }

        static boolean areAlike(Box one, Box two) {
            boolean bothNumbers = isNumberNoBits(one.kind) && isNumberNoBits(two.kind);
            if (!bothNumbers) {
                return one.kind == two.kind && one.value == two.value;
            }
            if (one.kind <= LONGS && two.kind <= LONGS) {
                return one.value == two.value;
            }
            long first = rank(DOUBLES, doubleBitsOf(one.kind, one.value));
            long second = rank(DOUBLES, doubleBitsOf(two.kind, two.value));
            return first == second;
        }

        private static boolean isNumberNoBits(int kind) {
            return kind > BITS && kind <= DOUBLES;
        }

        private static long zero(int kind, boolean minus) {
            if (!minus) {
                return 0L;
            }
            return kind == FLOATS ? Integer.MIN_VALUE : Long.MIN_VALUE;
        }

        private static long doubleBitsOf(int kind, long value) {
            return viewed(kind, value, DOUBLES);
        }

        /** The bits of a number that is 0.0 or whose size lies in 2 to the -32 .. 2 to the 63. */
        private static long doubleBits(double number) {
            if (number == 0.0) {
                return 0L;
            }
            double size = number < 0.0 ? -number : number;
            int power = 0;
            if (size < 1.0) {
                size = size * 4294967296.0;
                power = -32;
            }
            for (int leap = 32; leap > 0; leap = leap / 2) {
                double part = (double) (1L << leap);
                if (size >= part) {
                    size = size / part;
                    power = power + leap;
                }
            }
            long fraction = (long) ((size - 1.0) * (double) (1L << DOUBLE_FRACTION));
            long bits = ((long) (power + DOUBLE_BIAS) << DOUBLE_FRACTION) | fraction;
            return number < 0.0 ? bits | Long.MIN_VALUE : bits;
        }

        /** The bits as a float's of a double that is a float too, and is not -0.0. */
        private static long narrowed(long bits) {
            if (bits == 0L) {
                return 0L;
            }
            int power = (int) ((bits >>> DOUBLE_FRACTION) & 2047L) - DOUBLE_BIAS;
            long fraction = (bits & DOUBLE_FRACTION_MASK) >>> (DOUBLE_FRACTION - FLOAT_FRACTION);
            long size = ((long) (power + FLOAT_BIAS) << FLOAT_FRACTION) | fraction;
            return bits < 0L ? size | Integer.MIN_VALUE : size;
        }

        /** The bits as a double's of a float. */
        private static long widened(long bits) {
            if ((bits & Integer.MAX_VALUE) == 0L) {
                return bits < 0L ? Long.MIN_VALUE : 0L;
            }
            int power = (int) ((bits >>> FLOAT_FRACTION) & 255L) - FLOAT_BIAS;
            long fraction = (bits & FLOAT_FRACTION_MASK) << (DOUBLE_FRACTION - FLOAT_FRACTION);
            long size = ((long) (power + DOUBLE_BIAS) << DOUBLE_FRACTION) | fraction;
            return bits < 0L ? size | Long.MIN_VALUE : size;
        }

        private static long cutToWhole(long bits) {
            int power = (int) ((bits >>> DOUBLE_FRACTION) & 2047L) - DOUBLE_BIAS;
            if (power < 0) {
                return 0L;
            }
            if (power > 62) {
                return bits < 0L ? Long.MIN_VALUE : Long.MAX_VALUE;
            }
            long digits = (bits & DOUBLE_FRACTION_MASK) | (1L << DOUBLE_FRACTION);
            int shift = power - DOUBLE_FRACTION;
            long size = shift >= 0 ? digits << shift : digits >>> -shift;
            return bits < 0L ? -size : size;
        }
    }

    /** A row: each cell is a box (of the row's own kind, if that is a number's). */
    private static final class Row {
        final int kind;
        private final int[] kinds;
        private final long[] values;
        private final boolean[] touched;

        Row(int kind, int n) {
            int size = Math.max(0, n);
            this.kind = kind;
            kinds = new int[size];
            values = new long[size];
            touched = new boolean[size];
            int first = kind < BOXES ? kind : MISSING;
            for (int i = 0; i < size; i++) {
                kinds[i] = first;
            }
        }

        int size() {
            return values.length;
        }

        boolean has(int i) {
            return i >= 0 && i < values.length;
        }

        int kindAt(int i) {
            return has(i) ? kinds[i] : MISSING;
        }

        long valueAt(int i) {
            return has(i) ? values[i] : 0L;
        }

        void setCell(int i, int newKind, long newValue) {
            if (has(i)) {
                kinds[i] = newKind;
                values[i] = newValue;
            }
        }

        void touchCell(int i) {
            if (has(i)) {
                touched[i] = true;
            }
        }

        int touchedCells() {
            int many = 0;
            for (int i = 0; i < touched.length; i++) {
                if (touched[i]) {
                    many++;
                }
            }
            return many;
        }

        int firstTouched() {
            for (int i = 0; i < touched.length; i++) {
                if (touched[i]) {
                    return i;
                }
            }
            return ABSENT;
        }

        boolean admits(int boxKind) {
            if (kind == BOXES) {
                return true;
            }
            if (kind == LABELS) {
                return boxKind == LABEL || boxKind == MISSING;
            }
            return Kinds.mayBeViewed(boxKind, kind);
        }

        /** A row with the same cells, none of them touched. */
        Row copied() {
            Row twin = new Row(kind, values.length);
            for (int i = 0; i < values.length; i++) {
                twin.setCell(i, kinds[i], values[i]);
            }
            return twin;
        }
    }

    private static final class Window {
        int slot = 0;
        int from = 0;
        int step = 1;
        int many = 0;
        int view = AS_IT_IS;

        boolean has(int j) {
            return j >= 0 && j < many;
        }

        int placeOf(int j) {
            return from + j * step;
        }

        void become(int newSlot, int newFrom, int newStep, int newMany, int newView) {
            slot = newSlot;
            from = newFrom;
            step = newStep;
            many = newMany;
            view = newView;
        }
    }

    /** All that an image keeps: the slots with what they hold, and the windows. */
    private static final class Bank {
        private final Row[] rows = new Row[SLOTS];
        private final int[] held = new int[SLOTS];
        private final int[] numbers = new int[SLOTS];
        private final Window[] windows = new Window[WINDOWS];

        Bank() {
            for (int s = 0; s < held.length; s++) {
                held[s] = EMPTY;
            }
            for (int w = 0; w < windows.length; w++) {
                windows[w] = new Window();
            }
        }

        private static boolean isPlace(int slot) {
            return slot >= 0 && slot < SLOTS;
        }

        Row rowAt(int slot) {
            return isPlace(slot) ? rows[slot] : null;
        }

        int heldBy(int slot) {
            return isPlace(slot) ? held[slot] : EMPTY;
        }

        /** The refusal of a slot that holds no row. */
        int whyNoRow(int slot) {
            return isPlace(slot) && held[slot] != EMPTY ? KIND : NOTHING;
        }

        int numberAt(int slot) {
            return isPlace(slot) ? numbers[slot] : 0;
        }

        Window windowAt(int window) {
            return window >= 0 && window < windows.length ? windows[window] : null;
        }

        void holdRow(int slot, Row row) {
            if (isPlace(slot) && row != null) {
                rows[slot] = row;
                held[slot] = row.kind;
                numbers[slot] = 0;
            }
        }

        void holdThing(int slot, int what, int number) {
            if (isPlace(slot)) {
                rows[slot] = null;
                held[slot] = what;
                numbers[slot] = number;
            }
        }

        void holdWhatIsIn(int slot, int source) {
            if (isPlace(slot) && isPlace(source)) {
                rows[slot] = rows[source];
                held[slot] = held[source];
                numbers[slot] = numbers[source];
            }
        }

        int holdersOf(Row row) {
            int many = 0;
            for (int s = 0; s < rows.length; s++) {
                if (rows[s] == row) {
                    many++;
                }
            }
            return many;
        }

        /** The first slot that holds the very row that a slot holds. */
        private int firstHolder(int slot) {
            Row row = rowAt(slot);
            for (int s = 0; s < slot && s < rows.length; s++) {
                if (rows[s] == row) {
                    return s;
                }
            }
            return slot;
        }

        /** The row of a slot, but none if an earlier slot holds it too. */
        private Row rowFirstHeldAt(int slot) {
            return firstHolder(slot) == slot ? rowAt(slot) : null;
        }

        int slotsWithRows() {
            int many = 0;
            for (int s = 0; s < rows.length; s++) {
                if (rows[s] != null) {
                    many++;
                }
            }
            return many;
        }

        int slotsWithThings() {
            int many = 0;
            for (int s = 0; s < held.length; s++) {
                if (held[s] == LABEL_THING || held[s] == WORD_THING) {
                    many++;
                }
            }
            return many;
        }

        int unlikeRows() {
            int many = 0;
            for (int s = 0; s < rows.length; s++) {
                if (rowFirstHeldAt(s) != null) {
                    many++;
                }
            }
            return many;
        }

        int cellsOfUnlikeRows() {
            int many = 0;
            for (int s = 0; s < rows.length; s++) {
                Row row = rowFirstHeldAt(s);
                if (row != null) {
                    many = many + row.size();
                }
            }
            return many;
        }

        int touchedCells() {
            int many = 0;
            for (int s = 0; s < rows.length; s++) {
                Row row = rowFirstHeldAt(s);
                if (row != null) {
                    many = many + row.touchedCells();
                }
            }
            return many;
        }

        Bank copied() {
            Bank twin = new Bank();
            for (int s = 0; s < SLOTS; s++) {
                Row row = rows[s];
                int first = firstHolder(s);
                if (row == null) {
                    twin.holdThing(s, held[s], numbers[s]);
                } else if (first == s) {
                    twin.holdRow(s, row.copied());
                } else {
                    twin.holdWhatIsIn(s, first);
                }
            }
            for (int w = 0; w < windows.length; w++) {
                Window seen = windows[w];
                Window copy = twin.windowAt(w);
                if (seen != null && copy != null) {
                    copy.become(seen.slot, seen.from, seen.step, seen.many, seen.view);
                }
            }
            return twin;
        }
    }

    /** One cell that an act put: what it was, and what it is. */
    private static final class Put {
        final Row row;
        final int place;
        private final int oldKind;
        private final long oldValue;
        private final int newKind;
        private final long newValue;

        Put(Row row, int place, int oldKind, long oldValue, int newKind, long newValue) {
            this.row = row;
            this.place = place;
            this.oldKind = oldKind;
            this.oldValue = oldValue;
            this.newKind = newKind;
            this.newValue = newValue;
        }

        void takeBack() {
            if (row != null) {
                row.setCell(place, oldKind, oldValue);
            }
        }

        void doAgain() {
            if (row != null) {
                row.setCell(place, newKind, newValue);
            }
        }
    }

    /** What one call put, in the order in which it was put. */
    private static final class Act {
        private final Put[] puts;

        Act(Put[] source, int many) {
            int size = source == null ? 0 : Math.max(0, Math.min(many, source.length));
            puts = new Put[size];
            for (int k = 0; k < size; k++) {
                puts[k] = source[k];
            }
        }

        int size() {
            return puts.length;
        }

        int placeOf(int k) {
            if (k < 0 || k >= puts.length) {
                return NONE;
            }
            Put put = puts[k];
            return put == null ? NONE : put.place;
        }

        boolean hasCellOf(Row row) {
            for (int k = 0; k < puts.length; k++) {
                Put put = puts[k];
                if (put != null && put.row == row) {
                    return true;
                }
            }
            return false;
        }

        void takeBack() {
            for (int k = puts.length - 1; k >= 0; k--) {
                Put put = puts[k];
                if (put != null) {
                    put.takeBack();
                }
            }
        }

        void doAgain() {
            for (int k = 0; k < puts.length; k++) {
                Put put = puts[k];
                if (put != null) {
                    put.doAgain();
                }
            }
        }

        void touchAll() {
            for (int k = 0; k < puts.length; k++) {
                Put put = puts[k];
                if (put != null && put.row != null) {
                    put.row.touchCell(put.place);
                }
            }
        }
    }

    /**
     * The acts that are kept, the oldest first: doneCount of them stand, those
     * behind are undone. Puts of a call are pending until it settles.
     */
    private static final class Journal {
        private final Put[] pending = new Put[MOST_PUTS];
        private int pendingCount = 0;
        private final Act[] acts = new Act[KEPT_ACTS];
        int doneCount = 0;
        int allCount = 0;

        void put(Row row, int place, int kind, long value) {
            if (row == null || pendingCount < 0 || pendingCount >= pending.length) {
                return;
            }
            pending[pendingCount] = new Put(row, place, row.kindAt(place), row.valueAt(place), kind, value);
            pendingCount++;
            row.setCell(place, kind, value);
        }

        void takeBackPending() {
            for (int k = Math.min(pendingCount, pending.length) - 1; k >= 0; k--) {
                Put put = pending[k];
                if (put != null) {
                    put.takeBack();
                }
            }
            pendingCount = 0;
        }

        void settle() {
            if (pendingCount == 0) {
                return;
            }
            Act act = new Act(pending, pendingCount);
            pendingCount = 0;
            act.touchAll();
            keep(act);
        }

        private void keep(Act act) {
            if (doneCount >= acts.length) {
                dropOldest();
            }
            if (doneCount >= 0 && doneCount < acts.length) {
                acts[doneCount] = act;
                doneCount++;
                // What was undone stood behind, and cannot be done again any more.
                allCount = doneCount;
            }
        }

        private void dropOldest() {
            for (int k = 1; k < acts.length; k++) {
                acts[k - 1] = acts[k];
            }
            doneCount--;
        }

        void clear() {
            doneCount = 0;
            allCount = 0;
        }

        /** Acts that have a cell of a row are no more. */
        void forget(Row row) {
            int left = 0;
            int leftDone = 0;
            for (int k = 0; k < allCount && k < acts.length; k++) {
                Act act = acts[k];
                if (act != null && !act.hasCellOf(row)) {
                    acts[left] = act;
                    left++;
                    leftDone = k < doneCount ? left : leftDone;
                }
            }
            doneCount = leftDone;
            allCount = left;
        }

        /** The i-th act that is not undone. */
        Act actAt(int i) {
            return i >= 0 && i < doneCount && i < acts.length ? acts[i] : null;
        }

        int takeBackLatest() {
            Act act = actAt(doneCount - 1);
            if (act == null) {
                return STATE;
            }
            act.takeBack();
            doneCount--;
            return act.size();
        }

        int doLatestAgain() {
            if (doneCount < 0 || doneCount >= allCount || doneCount >= acts.length) {
                return STATE;
            }
            Act act = acts[doneCount];
            if (act == null) {
                return STATE;
            }
            act.doAgain();
            doneCount++;
            return act.size();
        }
    }

    /** One line of a text: it reads a cell and puts it, or boxes a number. */
    private static final class Line {
        int slot = 0;
        int place = 0;
        boolean reads = false;
        int source = 0;
        int sourcePlace = 0;
        int view = 0;
        int kind = MISSING;
        int number = 0;
    }

    private static final class Tape {
        private final byte[] letters = new byte[TAPE_ROOM];
        private final Line[] lines = new Line[MOST_LINES];
        int length = 0;
        int lineCount = 0;
        // Where parsing stands: the fault, if it fails.
        int at = 0;

        int lengthened(int letter) {
            if (length < 0 || length >= letters.length) {
                return FULL;
            }
            letters[length] = (byte) letter;
            length++;
            return length;
        }

        Line lineAt(int k) {
            return k >= 0 && k < lines.length ? lines[k] : null;
        }

        boolean isText() {
            at = 0;
            lineCount = 0;
            for (int k = 0; k < lines.length; k++) {
                Line line = new Line();
                if (!isLine(line)) {
                    return false;
                }
                keepLine(line);
                if (at >= length) {
                    return true;
                }
                if (!accepts(';')) {
                    return false;
                }
            }
            return false;
        }

        private void keepLine(Line line) {
            if (lineCount >= 0 && lineCount < lines.length) {
                lines[lineCount] = line;
                lineCount++;
            }
        }

        private boolean isLine(Line line) {
            line.slot = digit(9);
            if (line.slot == NONE || !accepts('.')) {
                return false;
            }
            line.place = oneOrTwoDigits();
            if (line.place == NONE) {
                return false;
            }
            if (accepts('=')) {
                line.reads = true;
                return isSource(line);
            }
            return accepts('<') && isNumber(line);
        }

        private boolean isSource(Line line) {
            line.source = digit(9);
            if (line.source == NONE || !accepts('.')) {
                return false;
            }
            line.sourcePlace = oneOrTwoDigits();
            if (line.sourcePlace == NONE || !accepts(':')) {
                return false;
            }
            line.view = digit(AS_IT_IS);
            return line.view != NONE;
        }

        private boolean isNumber(Line line) {
            line.kind = digit(9);
            if (line.kind == NONE || line.kind == MISSING) {
                return line.kind == MISSING;
            }
            boolean minus = accepts('-');
            int number = digit(9);
            if (number == NONE) {
                return false;
            }
            for (int k = 1; k < 9; k++) {
                int next = digit(9);
                if (next == NONE) {
                    break;
                }
                number = 10 * number + next;
            }
            line.number = minus ? -number : number;
            return true;
        }

        private int oneOrTwoDigits() {
            int first = digit(9);
            if (first == NONE) {
                return NONE;
            }
            int second = digit(9);
            return second == NONE ? first : 10 * first + second;
        }

        private int digit(int highest) {
            int value = letterHere() - '0';
            if (value < 0 || value > highest) {
                return NONE;
            }
            at++;
            return value;
        }

        private boolean accepts(char letter) {
            if (letterHere() != letter) {
                return false;
            }
            at++;
            return true;
        }

        /** The letter where parsing stands; 0, which no tape has, at the end. */
        private int letterHere() {
            return at >= 0 && at < length && at < letters.length ? letters[at] : 0;
        }
    }

    private static final class Paper {
        private static final String LETTERS = "zbcsijfdol";
        private final byte[] letters = new byte[PAPER_ROOM];
        private final byte[] digits = new byte[MOST_DIGITS];
        int length = 0;

        int letterAt(int i) {
            return i >= 0 && i < length && i < letters.length ? letters[i] : NONE;
        }

        void become(Row row) {
            length = 0;
            if (row.kind >= 0 && row.kind < LETTERS.length()) {
                add(LETTERS.charAt(row.kind));
            }
            for (int i = 0; i < row.size(); i++) {
                add(' ');
                addBox(row.kindAt(i), row.valueAt(i));
            }
        }

        private void addBox(int kind, long value) {
            if (kind == MISSING) {
                add('-');
                return;
            }
            if (kind == LABEL) {
                add('l');
            } else if (kind == WORD) {
                add('w');
            }
            addNumber(value);
        }

        private void addNumber(long value) {
            if (value < 0L) {
                add('-');
            }
            // Below zero there is room for Long.MIN_VALUE too.
            long rest = value < 0L ? value : -value;
            int first = digits.length;
            do {
                first--;
                digits[first] = (byte) ('0' - rest % 10L);
                rest = rest / 10L;
            } while (rest != 0L && first > 0);
            for (int k = first; k < digits.length; k++) {
                add((char) digits[k]);
            }
        }

        private void add(char letter) {
            if (length >= 0 && length < letters.length) {
                letters[length] = (byte) letter;
                length++;
            }
        }
    }
}
