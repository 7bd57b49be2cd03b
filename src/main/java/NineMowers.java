import java.util.Arrays;

/** Mowers in a row, one behind the other; ../shared/DOC.md tells what each call answers. */
public final class NineMowers {
    public static final int NONE = -1, BAD = -2, STATE = -3, FULL = -4;
    public static final long NO = Long.MIN_VALUE;

    private static final int NOBODY = -5, TOO_MANY = -9;
    private static final int NOTHING = -11, CAST = -12, PLACE = -13, SIZE = -14;
    private static final int FAR_NONE = -100001, FAR_BAD = -100002;
    private static final int MOST_MOWERS = 6, MOST_FIELDS = 6, MOST_SIGNS = 100, MOST_TAPES = 6;
    private static final int MOST_AT = 9999, LAST_MINUTE = 9999, SHARP = 10, MOST_TIRED = 99;
    private static final int MOST_ORDERED = 5;
    private static final int SHORTS = 1;

    // What mostBy() tries one number after the other for.
    private static final int BY_WHETTING = 0, BY_GAP = 1, BY_REST = 2, BY_PAUSE = 3;
    private static final int NEVER_WHETS = 16;

    private final Course now = new Course();
    private final Course image = new Course();
    // All that is asked is tried out here, so that asking changes nothing and makes nothing.
    private final Course trial = new Course();
    private boolean imageTaken = false;

    private final Field[] fields = new Field[MOST_FIELDS];
    private int fieldCount = 0;
    private final byte[] text = new byte[MOST_SIGNS];
    private int textLength = 0;

    private final Tape[] tapes = new Tape[MOST_TAPES];
    private final Numbers trace = new Numbers(20);
    private final int[] tried = new int[MOST_ORDERED];
    private final int[] bestOrder = new int[MOST_ORDERED];
    private final int[] asItIs = new int[MOST_MOWERS];

    public NineMowers() {
        Field bare = new Field();
        now.field = bare;
        image.field = bare;
        trial.field = bare;
        for (int i = 0; i < MOST_TAPES; i++) {
            tapes[i] = new Tape();
        }
    }

    // ---- mowers, fields, rows

    public int mower(int kind, int v) {
        if (kind < 0 || kind > 6) {
            return NONE;
        }
        if (v < 0 || v > 9) {
            return BAD;
        }
        if (now.count >= MOST_MOWERS) {
            return FULL;
        }
        return now.comes(made(kind, now.count, v));
    }

    private static Mower made(int kind, int number, int v) {
        switch (kind) {
            case 1: return new Steady(kind, number, v);
            case 2: return new Hasty(kind, number, v);
            case 3: return new Boy(kind, number, v);
            case 4: return new Old(kind, number, v);
            case 5: return new Pressed(kind, number, v);
            case 6: return new Told(kind, number, v);
            default: return new Mower(kind, number, v);
        }
    }

    private boolean isMower(int mower) {
        return mower >= 0 && mower < now.count;
    }

    public int of(int mower, int what) {
        if (!isMower(mower)) {
            return NONE;
        }
        switch (what) {
            case 0: return now.mowers[mower].kind;
            case 1: return now.mowers[mower].v;
            case 2: return now.at[mower];
            case 3: return now.edge[mower];
            case 4: return now.tired[mower];
            case 5: return now.stopped[mower];
            case 6: return now.placeOf(mower);
            case 7: return now.paceAt(now.placeOf(mower));
            case 8: return now.strideAt(now.placeOf(mower));
            default: return NONE;
        }
    }

    public int set(int mower, int what, int n) {
        if (!isMower(mower) || what < 0 || what > 3) {
            return NONE;
        }
        int most = what == 0 ? MOST_AT : what == 1 ? SHARP : MOST_TIRED;
        if (n < 0 || n > most) {
            return BAD;
        }
        int[] changed = now.numbersOf(what);
        int before = changed[mower];
        changed[mower] = n;
        return before;
    }

    public int row(int mower, int part, int n) {
        if (!isMower(mower) || part < 0 || part > 3) {
            return NONE;
        }
        if (n < 0 || n > 9) {
            return BAD;
        }
        if (!(now.mowers[mower] instanceof Told)) {
            return STATE;
        }
        int before = now.told[4 * mower + part];
        now.told[4 * mower + part] = n;
        return before;
    }

    public int place(int mower, int k) {
        if (!isMower(mower) || k < 0 || k >= now.count) {
            return NONE;
        }
        return now.moves(mower, k);
    }

    public int feed(int sign) {
        if (sign < 0 || sign > 127) {
            return BAD;
        }
        if (textLength >= MOST_SIGNS) {
            return FULL;
        }
        text[textLength] = (byte) sign;
        textLength++;
        return textLength;
    }

    public int field() {
        if (fieldCount >= MOST_FIELDS) {
            return FULL;
        }
        // A field whose text had a fault is read over by the next text.
        if (fields[fieldCount] == null) {
            fields[fieldCount] = new Field();
        }
        Field read = fields[fieldCount];
        boolean faultless = read.reads(text, textLength);
        textLength = 0;
        if (!faultless) {
            return -10 - read.fault();
        }
        now.field = read;
        fieldCount++;
        return fieldCount - 1;
    }

    public int told(int what) {
        switch (what) {
            case 0: return now.minute;
            case 1: return now.field.gap;
            case 2: return now.field.tire;
            case 3: return now.field.length;
            default: return what >= 10 && what - 10 < now.count ? now.line[what - 10] : NONE;
        }
    }

    // ---- minutes

    public int minute() {
        return now.minute >= LAST_MINUTE ? STATE : now.goesMinute();
    }

    public int whet() {
        if (now.minute >= LAST_MINUTE) {
            return STATE;
        }
        now.whetsAll();
        return now.minute;
    }

    public int pause(int n) {
        if (n < 1 || n > 60) {
            return BAD;
        }
        if (now.minute + n > LAST_MINUTE) {
            return STATE;
        }
        now.rests(n);
        return now.minute;
    }

    public int on(int n, int what) {
        boolean asksAt = what >= 10 && isMower(what - 10);
        boolean asksHeld = what >= 20 && isMower(what - 20);
        if (what != 0 && !asksAt && !asksHeld) {
            return NONE;
        }
        if (n < 0 || n > 60) {
            return BAD;
        }
        trial.becomes(now);
        if (asksHeld) {
            return heldTimes(what - 20, n);
        }
        trial.goes(n);
        return asksAt ? trial.at[what - 10] : trial.allAt();
    }

    private int heldTimes(int mower, int n) {
        int times = 0;
        for (int i = 0; i < n; i++) {
            times += trial.goesMinute() >> mower & 1;
        }
        return times;
    }

    public int done() {
        trial.becomes(now);
        for (int minutes = 0; minutes <= 120; minutes++) {
            if (trial.isDone()) {
                return minutes;
            }
            trial.goesMinute();
        }
        return NOBODY;
    }

    // ---- orders, whetting, gaps

    public int order(int n, int k) {
        if (k < -1 || k > 4) {
            return NONE;
        }
        if (n < 1 || n > 12) {
            return BAD;
        }
        if (now.count > MOST_ORDERED) {
            return TOO_MANY;
        }
        if (k >= now.count) {
            return NOBODY;
        }
        int most = findsBestOrder(n);
        return k < 0 ? most : bestOrder[k];
    }

    /** The orders are tried from the first as a row on, so only a better one replaces the best. */
    private int findsBestOrder(int n) {
        int size = Math.min(now.count, MOST_ORDERED);
        for (int i = 0; i < size; i++) {
            tried[i] = i;
        }
        int most = -1;
        boolean more = true;
        for (int round = 0; round < 120 && more; round++) {
            int total = totalInOrder(n);
            if (total > most) {
                most = total;
                System.arraycopy(tried, 0, bestOrder, 0, size);
            }
            more = triesNextOrder(size);
        }
        return most;
    }

    private int totalInOrder(int n) {
        trial.becomes(now);
        for (int i = 0; i < trial.count && i < MOST_ORDERED; i++) {
            trial.line[i] = tried[i];
            trial.at[i] = 0;
        }
        for (int i = 0; i < n; i++) {
            trial.goesMinute();
        }
        return trial.allAt();
    }

    /** The next order as a row; false behind the last one. */
    private boolean triesNextOrder(int size) {
        int rising = size - 2;
        while (rising >= 0 && tried[rising] > tried[rising + 1]) {
            rising--;
        }
        if (rising < 0) {
            return false;
        }
        int above = size - 1;
        while (above > rising && tried[above] < tried[rising]) {
            above--;
        }
        swapsTried(rising, above);
        int low = rising + 1;
        int high = size - 1;
        while (low < high) {
            swapsTried(low, high);
            low++;
            high--;
        }
        return true;
    }

    private void swapsTried(int i, int j) {
        int kept = tried[i];
        tried[i] = tried[j];
        tried[j] = kept;
    }

    public int whets(int n, int what) {
        if (what != 0 && what != 1) {
            return NONE;
        }
        return n < 1 || n > 60 ? BAD : mostBy(BY_WHETTING, n, 1, NEVER_WHETS, what);
    }

    public int apart(int n, int what) {
        if (what != 0 && what != 1) {
            return NONE;
        }
        return n < 1 || n > 60 ? BAD : mostBy(BY_GAP, n, 0, 9, what);
    }

    /** The least number of first .. last by which all go on most (what 0), or how far (what 1). */
    private int mostBy(int by, int n, int first, int last, int what) {
        int best = first;
        int most = totalBy(by, n, first);
        for (int k = first + 1; k <= last; k++) {
            int total = totalBy(by, n, k);
            if (total > most) {
                best = k;
                most = total;
            }
        }
        return what == 0 ? best : most;
    }

    private int totalBy(int by, int n, int k) {
        trial.becomes(now);
        if (by == BY_GAP) {
            trial.otherGap = k;
        }
        if (by == BY_REST && isMower(k)) {
            trial.stopped[k] += 5;
        }
        // A pause behind the last minute (k is n) moves nobody and is left out.
        for (int i = 0; i < n; i++) {
            if (by == BY_PAUSE && i == k) {
                trial.rests(5);
            }
            if (by == BY_WHETTING && whetsIn(i + 1, k)) {
                trial.whetsAll();
            } else {
                trial.goesMinute();
            }
        }
        return trial.allAt();
    }

    private static boolean whetsIn(int number, int k) {
        return k >= 1 && k < NEVER_WHETS && number % k == 0;
    }

    // ---- stops, rests, pauses

    public int stop(int mower, int r, int n, int what) {
        if (!isMower(mower) || what != 0 && what != 1) {
            return FAR_NONE;
        }
        if (r < 1 || r > 20 || n < 1 || n > 60) {
            return FAR_BAD;
        }
        trial.becomes(now);
        trial.goes(n);
        int total = trial.allAt();
        System.arraycopy(trial.at, 0, asItIs, 0, MOST_MOWERS);
        trial.becomes(now);
        trial.stopped[mower] += r;
        trial.goes(n);
        return what == 0 ? total - trial.allAt() : hits(mower);
    }

    private int hits(int mower) {
        int bits = 0;
        for (int m = 0; m < trial.count; m++) {
            if (m != mower && trial.at[m] < asItIs[m]) {
                bits |= 1 << m;
            }
        }
        return bits;
    }

    public int alone(int n) {
        if (n < 1 || n > 60) {
            return FAR_BAD;
        }
        trial.becomes(now);
        trial.goes(n);
        int more = trial.allAt();
        for (int m = 0; m < now.count; m++) {
            trial.becomes(now);
            trial.line[0] = m;
            trial.inLine = 1;
            trial.goes(n);
            more -= trial.at[m];
        }
        return more;
    }

    public int rest(int n, int what) {
        if (what != 0 && what != 1) {
            return NONE;
        }
        if (n < 1 || n > 60) {
            return BAD;
        }
        // As it is comes first, as if -1 rested: so a rest must better that.
        int who = mostBy(BY_REST, n, -1, now.count - 1, 0);
        if (who < 0) {
            return NOBODY;
        }
        return what == 0 ? who : totalBy(BY_REST, n, who);
    }

    public int paused(int n, int what) {
        if (what != 0 && what != 1) {
            return NONE;
        }
        return n < 1 || n > 30 ? BAD : mostBy(BY_PAUSE, n, 0, n, what);
    }

    // ---- seen, odds, plans, books

    public int see(int mower, int n, int at) {
        if (mower == -1) {
            now.seen.size = 0;
            return 0;
        }
        if (!isMower(mower)) {
            return NONE;
        }
        if (n < 0 || n > 30 || at < 0 || at > MOST_AT) {
            return BAD;
        }
        if (now.seen.isFull()) {
            return FULL;
        }
        now.seen.comes(mower);
        now.seen.comes(n);
        now.seen.comes(at);
        return now.seen.size / 3;
    }

    public int who() {
        int bits = 0;
        for (int m = 0; m < now.count; m++) {
            trial.becomes(now);
            trial.stopped[m] += 3;
            if (allSeenIsSo()) {
                bits |= 1 << m;
            }
        }
        return bits;
    }

    private boolean allSeenIsSo() {
        for (int minutes = 0; minutes <= 30; minutes++) {
            if (!seenIsSo(minutes)) {
                return false;
            }
            trial.goesMinute();
        }
        return true;
    }

    private boolean seenIsSo(int minutes) {
        int[] seen = now.seen.kept;
        for (int i = 0; i + 2 < now.seen.size; i += 3) {
            if (seen[i + 1] == minutes && trial.at[seen[i]] != seen[i + 2]) {
                return false;
            }
        }
        return true;
    }

    public long odds(int mower, int n, int part) {
        if (!isMower(mower) || n < 1 || n > 60 || part != 0 && part != 1) {
            return NO;
        }
        int cases = 0;
        for (int m = 0; m < now.count; m++) {
            trial.becomes(now);
            trial.stopped[m] += 5;
            if (heldTimes(mower, n) > 0) {
                cases++;
            }
        }
        return lowest(cases, now.count, part);
    }

    public long mean(int n, int part) {
        if (now.count == 0 || n < 1 || n > 60 || part != 0 && part != 1) {
            return NO;
        }
        trial.becomes(now);
        trial.goes(n);
        return lowest(trial.allAt(), now.count, part);
    }

    /** One part of above / below in lowest terms; below is 1 or more. */
    private static long lowest(int above, int below, int part) {
        int divisor = below;
        int over = above;
        // Numbers of six mowers' size need far fewer rounds.
        for (int round = 0; round < 100 && over > 0; round++) {
            int next = divisor % over;
            divisor = over;
            over = next;
        }
        if (divisor < 1) {
            return NO;
        }
        return (part == 0 ? above : below) / divisor;
    }

    public int plan(int what) {
        if (what == -1) {
            now.plan.size = 0;
            return 0;
        }
        if (what < 0 || what > 2) {
            return NONE;
        }
        if (now.plan.isFull()) {
            return FULL;
        }
        now.plan.comes(what);
        return now.plan.size;
    }

    public int planned() {
        trial.becomes(now);
        for (int i = 0; i < now.plan.size; i++) {
            int what = now.plan.kept[i];
            if (what == 0) {
                trial.goesMinute();
            } else if (what == 1) {
                trial.whetsAll();
            } else {
                trial.rests(1);
            }
        }
        return trial.allAt();
    }

    public int book(int mower) {
        if (mower == -1) {
            now.book.size = 0;
            return 0;
        }
        if (!isMower(mower)) {
            return NONE;
        }
        if (now.book.isFull()) {
            return FULL;
        }
        now.book.comes(mower);
        return now.book.size;
    }

    public int looked() {
        trial.becomes(now);
        int held = trial.goesMinute();
        for (int i = 0; i < now.book.size; i++) {
            int mower = now.book.kept[i];
            if ((held >> mower & 1) == 0) {
                return mower;
            }
        }
        return NOBODY;
    }

    // ---- judging, the image, acts, tapes

    public int judge(int tape, int i) {
        if (!isTape(tape)) {
            return NONE;
        }
        Tape told = tapes[tape];
        if (!told.isEmpty() && told.sort != SHORTS) {
            return CAST;
        }
        for (int m = 0; m < now.count; m++) {
            // The place i itself is looked at first, as i + m may wrap around.
            if (!told.has(i) || !told.has(i + m)) {
                return 100 + m;
            }
            if (told.items[i + m] != now.at[m]) {
                return m;
            }
        }
        return NOBODY;
    }

    public int image() {
        image.becomes(now);
        image.becomesTold(now);
        imageTaken = true;
        return now.count;
    }

    public int undo() {
        if (!imageTaken) {
            return STATE;
        }
        now.becomes(image);
        now.becomesTold(image);
        return now.count;
    }

    public int act(int mower, int act, int x) {
        trace.size = 0;
        if (!isMower(mower)) {
            return 0;
        }
        Mower acting = now.mowers[mower];
        switch (act) {
            case 0: return acting.mowing(x, trace);
            case 1: return acting.whetting(x, trace);
            case 2: return acting.telling(x, trace);
            default: return 0;
        }
    }

    public int trace(int i) {
        return trace.has(i) ? trace.kept[i] : NONE;
    }

    public int taken(int mower, int k) {
        if (k < 0 || k > 6) {
            return BAD;
        }
        if (!isMower(mower)) {
            return NOTHING;
        }
        return isOfKind(now.mowers[mower], k) ? now.mowers[mower].kind : CAST;
    }

    private static boolean isOfKind(Mower mower, int k) {
        switch (k) {
            case 0: return true;
            case 1: return mower instanceof Steady;
            case 2: return mower instanceof Hasty;
            case 3: return mower instanceof Boy;
            case 4: return mower instanceof Old;
            case 5: return mower instanceof Pressed;
            case 6: return mower instanceof Told;
            default: return false;
        }
    }

    public int count(int what) {
        switch (what) {
            case 0: return now.count;
            case 1: return fieldCount;
            case 2: return now.seen.size / 3;
            case 3: return now.plan.size;
            case 4: return now.book.size;
            case 5: return textLength;
            case 6: return trace.size;
            default: return BAD;
        }
    }

    private static boolean isTape(int tape) {
        return tape >= 0 && tape < MOST_TAPES;
    }

    public int tape(int tape, int sort, int n) {
        if (!isTape(tape)) {
            return NONE;
        }
        if (sort == -1) {
            tapes[tape].becomes(-1, 0);
            return 1;
        }
        if (sort < -1 || sort > 4 || n > Tape.LONGEST) {
            return BAD;
        }
        if (n < 0) {
            return SIZE;
        }
        tapes[tape].becomes(sort, n);
        return 1;
    }

    public int item(int tape, int i, long v) {
        if (!isTape(tape)) {
            return NONE;
        }
        Tape row = tapes[tape];
        if (row.isEmpty()) {
            return NOTHING;
        }
        if (!row.has(i)) {
            return PLACE;
        }
        row.items[i] = row.cut(v);
        return 1;
    }

    public long read(int tape, int i) {
        return isTape(tape) && tapes[tape].has(i) ? tapes[tape].items[i] : NO;
    }

    public int shift(int tape, int i, int other, int j, int n) {
        if (!isTape(tape) || !isTape(other)) {
            return NONE;
        }
        Tape from = tapes[tape];
        Tape to = tapes[other];
        if (from.isEmpty() || to.isEmpty()) {
            return NOTHING;
        }
        if (from.sort != to.sort) {
            return CAST;
        }
        if (!from.hasPart(i, n) || !to.hasPart(j, n)) {
            return PLACE;
        }
        System.arraycopy(from.items, i, to.items, j, n);
        return n;
    }

    /** Numbers as they came; those behind the last place are counted, but not kept. */
    private static final class Numbers {
        final int[] kept;
        int size = 0;

        Numbers(int most) {
            kept = new int[most];
        }

        boolean isFull() {
            return size >= kept.length;
        }

        boolean has(int i) {
            return i >= 0 && i < size && i < kept.length;
        }

        void comes(int number) {
            if (size < kept.length) {
                kept[size] = number;
            }
            size++;
        }

        void becomes(Numbers other) {
            size = other.size;
            System.arraycopy(other.kept, 0, kept, 0, Math.min(kept.length, other.kept.length));
        }
    }

    /** A row of one sort, -1 being nothing; items of every sort are held as longs, already cut. */
    private static final class Tape {
        static final int LONGEST = 60;

        final long[] items = new long[LONGEST];
        int sort = -1;
        int size = 0;

        void becomes(int newSort, int n) {
            sort = newSort;
            size = n;
            Arrays.fill(items, 0L);
        }

        boolean isEmpty() {
            return sort < 0;
        }

        boolean has(int i) {
            return i >= 0 && i < size;
        }

        boolean hasPart(int i, int n) {
            return n >= 0 && i >= 0 && n <= size && i <= size - n;
        }

        long cut(long v) {
            switch (sort) {
                case 0: return (byte) v;
                case 1: return (short) v;
                case 2: return (int) v;
                case 4: return v != 0 ? 1 : 0;
                default: return v;
            }
        }
    }

    /** The clauses read from a text; at first there are none. */
    private static final class Field {
        static final int FAST = 0, SLOW = 1, GAP = 2, TIRE = 3;
        static final int MOST_CLAUSES = 10, DEEPEST = 4;
        // What joins tests in the code; a test itself is 0 or more there.
        static final int NOT = -1, AND = -2, OR = -3;

        int gap = 2;
        int tire = 1;
        int length = 60;
        // What the clauses ask, one behind the other: each sign stands behind the tests it joins.
        final int[] code = new int[MOST_SIGNS];
        int codeSize = 0;
        final int[] words = new int[MOST_CLAUSES];
        final int[] numbers = new int[MOST_CLAUSES];
        final int[] codeEnds = new int[MOST_CLAUSES];
        int clauses = 0;

        private byte[] signs = null;
        private int end = 0;
        private int pos = 0;

        /** Whether the text is a field; fault() tells where not, if it is none. */
        boolean reads(byte[] text, int size) {
            gap = 2;
            tire = 1;
            length = 60;
            codeSize = 0;
            clauses = 0;
            signs = text;
            end = Math.min(size, text.length);
            pos = 0;
            for (int i = 1; i < MOST_CLAUSES; i++) {
                if (!readsClause()) {
                    return false;
                }
                if (!takes(';')) {
                    return pos == end;
                }
            }
            return readsClause() && pos == end;
        }

        /** Every reading step stops at the first byte that it can't take. */
        int fault() {
            return pos;
        }

        private boolean readsClause() {
            int word = signAmong("fsgtl");
            if (word < 0 || !readsWord(word)) {
                return false;
            }
            int number = readsNumber();
            if (number < 0) {
                return false;
            }
            if (word <= SLOW && !(takes(' ') && readsEither(0))) {
                return false;
            }
            keeps(word, number);
            return true;
        }

        private boolean readsWord(int word) {
            String awaited = wordOf(word);
            for (int i = 0; i < awaited.length(); i++) {
                if (!takes(awaited.charAt(i))) {
                    return false;
                }
            }
            return true;
        }

        private static String wordOf(int word) {
            switch (word) {
                case FAST: return "fast ";
                case SLOW: return "slow ";
                case GAP: return "gap ";
                case TIRE: return "tire ";
                default: return "long ";
            }
        }

        private void keeps(int word, int number) {
            if (word == GAP) {
                gap = number;
            } else if (word == TIRE) {
                tire = number;
            } else if (word > TIRE) {
                length = Math.max(1, number);
            }
            if (clauses < MOST_CLAUSES) {
                words[clauses] = word;
                numbers[clauses] = number;
                codeEnds[clauses] = codeSize;
                clauses++;
            }
        }

        /** E of the document; depth tells within how many ( and ! it stands. */
        private boolean readsEither(int depth) {
            if (!readsBoth(depth)) {
                return false;
            }
            for (int i = 0; i < MOST_SIGNS && takes('|'); i++) {
                if (!readsBoth(depth)) {
                    return false;
                }
                writes(OR);
            }
            return true;
        }

        private boolean readsBoth(int depth) {
            if (!readsPart(depth)) {
                return false;
            }
            for (int i = 0; i < MOST_SIGNS && takes('&'); i++) {
                if (!readsPart(depth)) {
                    return false;
                }
                writes(AND);
            }
            return true;
        }

        private boolean readsPart(int depth) {
            if (depth < DEEPEST && takes('!')) {
                if (!readsPart(depth + 1)) {
                    return false;
                }
                writes(NOT);
                return true;
            }
            if (depth < DEEPEST && takes('(')) {
                return readsEither(depth + 1) && takes(')');
            }
            return readsTest();
        }

        private boolean readsTest() {
            int letter = signAmong("mkpetd");
            if (letter < 0) {
                return false;
            }
            pos++;
            int comparison = signAmong("<=>");
            if (comparison < 0) {
                return false;
            }
            pos++;
            int number = readsNumber();
            if (number < 0) {
                return false;
            }
            writes(letter * 300 + comparison * 100 + number);
            return true;
        }

        private int readsNumber() {
            if (!isDigit()) {
                return -1;
            }
            int number = sign() - '0';
            pos++;
            if (isDigit()) {
                number = 10 * number + sign() - '0';
                pos++;
            }
            return number;
        }

        private boolean isDigit() {
            return sign() >= '0' && sign() <= '9';
        }

        private int signAmong(String some) {
            int sign = sign();
            return sign < 0 ? -1 : some.indexOf((char) sign);
        }

        private int sign() {
            return signs != null && pos < end ? signs[pos] : -1;
        }

        private boolean takes(char awaited) {
            if (sign() != awaited) {
                return false;
            }
            pos++;
            return true;
        }

        private void writes(int part) {
            if (codeSize < code.length) {
                code[codeSize] = part;
                codeSize++;
            }
        }

        /** PACE of one whose numbers for the letters m, k, p, e, t and d these are. */
        int paceOf(int[] letters) {
            int pace = 6;
            int start = 0;
            for (int i = 0; i < clauses; i++) {
                if (words[i] <= SLOW && holds(start, codeEnds[i], letters)) {
                    pace += words[i] == FAST ? numbers[i] : -numbers[i];
                }
                start = codeEnds[i];
            }
            return pace > 0 ? pace : 0;
        }

        /** Four within each other leave 11 bits open at most, so an int is stack enough. */
        private boolean holds(int start, int stop, int[] letters) {
            int stack = 0;
            for (int i = start; i < stop && i < codeSize; i++) {
                int part = code[i];
                if (part >= 0) {
                    int difference = letters[part / 300] - part % 100;
                    int comparison = part / 100 % 3;
                    boolean so = comparison == 0 ? difference < 0 : comparison == 1 ? difference == 0 : difference > 0;
                    stack = stack << 1 | (so ? 1 : 0);
                } else if (part == NOT) {
                    stack ^= 1;
                } else {
                    int last = stack & 1;
                    stack >>= 1;
                    stack = part == OR ? stack | last : stack & (-2 | last);
                }
            }
            return (stack & 1) == 1;
        }
    }

    /** All that THE IMAGE keeps: the mowers and how all is, and what was told by hand. */
    private static final class Course {
        final Mower[] mowers = new Mower[MOST_MOWERS];
        int count = 0;
        // THE ROW; less than all stand in it when one is looked at alone.
        final int[] line = new int[MOST_MOWERS];
        int inLine = 0;
        final int[] at = new int[MOST_MOWERS];
        final int[] edge = new int[MOST_MOWERS];
        final int[] tired = new int[MOST_MOWERS];
        final int[] stopped = new int[MOST_MOWERS];
        final int[] told = new int[4 * MOST_MOWERS];
        int minute = 0;
        Field field = null;
        int otherGap = NONE;

        final Numbers seen = new Numbers(18);
        final Numbers plan = new Numbers(10);
        final Numbers book = new Numbers(8);

        private final int[] strides = new int[MOST_MOWERS];
        private final int[] letters = new int[6];

        void becomes(Course other) {
            count = other.count;
            inLine = other.inLine;
            minute = other.minute;
            field = other.field;
            otherGap = other.otherGap;
            for (int m = 0; m < MOST_MOWERS; m++) {
                mowers[m] = other.mowers[m];
                line[m] = other.line[m];
                at[m] = other.at[m];
                edge[m] = other.edge[m];
                tired[m] = other.tired[m];
                stopped[m] = other.stopped[m];
            }
            System.arraycopy(other.told, 0, told, 0, told.length);
        }

        void becomesTold(Course other) {
            seen.becomes(other.seen);
            plan.becomes(other.plan);
            book.becomes(other.book);
        }

        int comes(Mower mower) {
            int m = mower.number;
            mowers[m] = mower;
            // All else of its own is still 0: nobody behind the last one is ever written, and undo() clears.
            edge[m] = SHARP;
            line[count] = m;
            count++;
            inLine = count;
            return m;
        }

        int moves(int mower, int k) {
            int before = placeOf(mower);
            for (int p = before; p > k; p--) {
                line[p] = line[p - 1];
            }
            for (int p = before; p < k; p++) {
                line[p] = line[p + 1];
            }
            line[k] = mower;
            return before;
        }

        int placeOf(int mower) {
            int p = 0;
            while (p < inLine - 1 && line[p] != mower) {
                p++;
            }
            return p;
        }

        int[] numbersOf(int what) {
            switch (what) {
                case 0: return at;
                case 1: return edge;
                case 2: return tired;
                default: return stopped;
            }
        }

        int gap() {
            return otherGap >= 0 ? otherGap : field.gap;
        }

        int paceAt(int p) {
            int m = line[p];
            letters[0] = m;
            letters[1] = mowers[m].kind;
            letters[2] = p;
            letters[3] = edge[m];
            letters[4] = tired[m] / 10;
            letters[5] = minute % 10;
            return field.paceOf(letters);
        }

        int strideAt(int p) {
            int m = line[p];
            int stride = mowers[m].strides(paceAt(p), this, p);
            return edge[m] == 0 ? stride / 2 : stride;
        }

        boolean isPressedAt(int p) {
            return p + 1 < inLine && at[line[p]] - at[line[p + 1]] < gap() + 3;
        }

        void goes(int minutes) {
            for (int i = 0; i < minutes; i++) {
                goesMinute();
            }
        }

        /** Who was held, as bits. */
        int goesMinute() {
            for (int p = 0; p < inLine; p++) {
                strides[p] = strideAt(p);
            }
            int held = 0;
            for (int p = 0; p < inLine; p++) {
                int m = line[p];
                int far = 0;
                if (stopped[m] > 0) {
                    stopped[m]--;
                } else {
                    far = roomAt(p);
                    if (far < strides[p]) {
                        held |= 1 << m;
                    }
                }
                at[m] += far;
                wears(m, far > 0);
            }
            minute++;
            return held;
        }

        /** How far the one at place p goes on, when all ahead of it have gone on. */
        private int roomAt(int p) {
            int m = line[p];
            int end = Math.min(at[m] + strides[p], MOST_AT);
            if (p > 0) {
                end = Math.min(end, at[line[p - 1]] - gap());
            }
            return Math.max(0, end - at[m]);
        }

        private void wears(int m, boolean wentOn) {
            if (wentOn) {
                edge[m] = Math.max(0, edge[m] - 1);
                tired[m] = Math.min(MOST_TIRED, tired[m] + field.tire);
            } else {
                tired[m] = Math.max(0, tired[m] - 2);
            }
        }

        void whetsAll() {
            for (int m = 0; m < count; m++) {
                edge[m] = SHARP;
            }
            passes(1, 1);
        }

        void rests(int minutes) {
            passes(minutes, 3 * minutes);
        }

        private void passes(int minutes, int lessTired) {
            for (int m = 0; m < count; m++) {
                tired[m] = Math.max(0, tired[m] - lessTired);
                stopped[m] = Math.max(0, stopped[m] - minutes);
            }
            minute += minutes;
        }

        int allAt() {
            int all = 0;
            for (int m = 0; m < count; m++) {
                all += at[m];
            }
            return all;
        }

        boolean isDone() {
            for (int m = 0; m < count; m++) {
                if (at[m] < field.length) {
                    return false;
                }
            }
            return true;
        }
    }

    /** The kinds: each class tells only what its kind does in its own way. */
    private static class Mower {
        final int kind;
        final int number;
        final int v;

        Mower(int kind, int number, int v) {
            this.kind = kind;
            this.number = number;
            this.v = v;
        }

        /** STRIDE at place p of the course, but for the edge that is gone. */
        int strides(int pace, Course course, int p) {
            int tired = course.tired[number] / 20;
            return pace > tired ? pace - tired : 0;
        }

        int mowing(int x, Numbers trace) {
            trace.comes(10);
            return x + number;
        }

        int whetting(int x, Numbers trace) {
            trace.comes(11);
            return mowing(x, trace) - v;
        }

        int telling(int x, Numbers trace) {
            trace.comes(12);
            return whetting(x, trace) * 2;
        }
    }

    private static class Steady extends Mower {
        Steady(int kind, int number, int v) {
            super(kind, number, v);
        }

        int strides(int pace, Course course, int p) {
            return pace;
        }

        int whetting(int x, Numbers trace) {
            trace.comes(20);
            return super.whetting(x, trace) ^ 6;
        }
    }

    private static class Hasty extends Mower {
        Hasty(int kind, int number, int v) {
            super(kind, number, v);
        }

        int strides(int pace, Course course, int p) {
            return super.strides(pace, course, p) + (course.edge[number] > 5 ? v : 0);
        }

        int mowing(int x, Numbers trace) {
            trace.comes(30);
            return super.mowing(x * 3, trace);
        }
    }

    private static class Boy extends Mower {
        Boy(int kind, int number, int v) {
            super(kind, number, v);
        }

        int strides(int pace, Course course, int p) {
            return super.strides(pace, course, p) / 2;
        }

        int telling(int x, Numbers trace) {
            trace.comes(40);
            return super.telling(x, trace) + whetting(1, trace);
        }
    }

    private static final class Old extends Steady {
        Old(int kind, int number, int v) {
            super(kind, number, v);
        }

        int strides(int pace, Course course, int p) {
            int stride = super.strides(pace, course, p) - v / 3;
            return stride > 0 ? stride : 0;
        }

        int mowing(int x, Numbers trace) {
            trace.comes(50);
            return -super.mowing(x, trace);
        }

        int whetting(int x, Numbers trace) {
            trace.comes(51);
            return super.whetting(x + 1, trace);
        }
    }

    private static final class Pressed extends Hasty {
        Pressed(int kind, int number, int v) {
            super(kind, number, v);
        }

        int strides(int pace, Course course, int p) {
            return super.strides(pace, course, p) + (course.isPressedAt(p) ? 2 : 0);
        }

        int telling(int x, Numbers trace) {
            trace.comes(60);
            return super.telling(x - number, trace);
        }
    }

    private static final class Told extends Boy {
        Told(int kind, int number, int v) {
            super(kind, number, v);
        }

        int strides(int pace, Course course, int p) {
            return super.strides(pace, course, p) + course.told[4 * number + course.minute % 4];
        }

        int whetting(int x, Numbers trace) {
            trace.comes(70);
            return super.whetting(x, trace) + super.mowing(2, trace);
        }

        int mowing(int x, Numbers trace) {
            trace.comes(71);
            return super.mowing(x, trace) ^ v;
        }
    }
}
