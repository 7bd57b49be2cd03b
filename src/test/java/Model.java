import java.util.ArrayList;
import java.util.Arrays;
import java.util.List;
import java.util.function.Predicate;
import java.util.function.ToIntFunction;
import java.util.regex.Matcher;
import java.util.regex.Pattern;

/**
 * The document's mowers once more, written apart from the program and in another way: lists that are copied for each
 * question, fields by regular expressions and closures. Only for comparing answers.
 */
final class Model {
    static final int[] ABOVE = {-1, 0, 0, 0, 1, 2, 3};
    private static final Pattern FIELD = Pattern.compile(fieldPattern());

    static final class Mower {
        int number, kind, v, at, edge = 10, tired, stopped;
        int[] row = new int[4];

        Mower copy() {
            Mower c = new Mower();
            c.number = number;
            c.kind = kind;
            c.v = v;
            c.at = at;
            c.edge = edge;
            c.tired = tired;
            c.stopped = stopped;
            c.row = row.clone();
            return c;
        }
    }

    static final class Clause {
        String word;
        int n;
        Predicate<int[]> test;
    }

    static final class State {
        List<Mower> mowers = new ArrayList<>();
        List<Integer> line = new ArrayList<>();
        int minute;
        List<Clause> field = new ArrayList<>();
        Integer otherGap;
        List<int[]> seen = new ArrayList<>();
        List<Integer> plan = new ArrayList<>();
        List<Integer> book = new ArrayList<>();

        State copy() {
            State c = new State();
            mowers.forEach(m -> c.mowers.add(m.copy()));
            c.line.addAll(line);
            c.minute = minute;
            c.field = field;
            c.otherGap = otherGap;
            c.seen.addAll(seen);
            c.plan.addAll(plan);
            c.book.addAll(book);
            return c;
        }

        int last(String word, int without) {
            return field.stream().filter(c -> c.word.equals(word)).mapToInt(c -> c.n).reduce(without, (a, b) -> b);
        }

        int gap() {
            return otherGap != null ? otherGap : last("gap", 2);
        }

        int length() {
            return Math.max(1, last("long", 60));
        }

        int pace(Mower m) {
            int[] is = {m.number, m.kind, line.indexOf(m.number), m.edge, m.tired / 10, minute % 10};
            int pace = 6;
            for (Clause c : field) {
                if (c.test != null && c.test.test(is)) {
                    pace += c.word.equals("fast") ? c.n : -c.n;
                }
            }
            return Math.max(0, pace);
        }

        int stride(Mower m) {
            int pace = pace(m);
            int mower = Math.max(0, pace - m.tired / 20);
            int hasty = mower + (m.edge > 5 ? m.v : 0);
            int p = line.indexOf(m.number);
            boolean pressed = p + 1 < line.size() && m.at - mowers.get(line.get(p + 1)).at < gap() + 3;
            int[] strides = {mower, pace, hasty, mower / 2, Math.max(0, pace - m.v / 3), hasty + (pressed ? 2 : 0),
                mower / 2 + m.row[minute % 4]};
            return m.edge == 0 ? strides[m.kind] / 2 : strides[m.kind];
        }

        int minuteGoes() {
            int[] strides = mowers.stream().mapToInt(this::stride).toArray();
            int held = 0;
            Mower ahead = null;
            for (int number : line) {
                Mower m = mowers.get(number);
                int before = m.at;
                if (m.stopped > 0) {
                    m.stopped--;
                } else {
                    int stride = strides[number];
                    int to = m.at + stride;
                    to = ahead == null ? to : Math.min(to, ahead.at - gap());
                    m.at = Math.max(m.at, Math.min(9999, to));
                    held |= m.at - before < stride ? 1 << number : 0;
                }
                m.edge = m.at > before ? Math.max(0, m.edge - 1) : m.edge;
                m.tired = m.at > before ? Math.min(99, m.tired + last("tire", 1)) : Math.max(0, m.tired - 2);
                ahead = m;
            }
            minute++;
            return held;
        }

        void whetting() {
            for (Mower m : mowers) {
                m.edge = 10;
                m.tired = Math.max(0, m.tired - 1);
                m.stopped = Math.max(0, m.stopped - 1);
            }
            minute++;
        }

        void pauses(int n) {
            for (Mower m : mowers) {
                m.tired = Math.max(0, m.tired - 3 * n);
                m.stopped = Math.max(0, m.stopped - n);
            }
            minute += n;
        }

        int all() {
            return mowers.stream().mapToInt(m -> m.at).sum();
        }

        State after(int n) {
            State c = copy();
            for (int i = 0; i < n; i++) {
                c.minuteGoes();
            }
            return c;
        }

        State stoppedMore(int mower, int r) {
            State c = copy();
            c.mowers.get(mower).stopped += r;
            return c;
        }
    }

    State now = new State();
    State image;
    List<List<Clause>> fields = new ArrayList<>();
    String text = "";
    List<Integer> trace = new ArrayList<>();
    int[] sorts = {-1, -1, -1, -1, -1, -1};
    long[][] tapes = new long[6][];

    boolean has(int mower) {
        return mower >= 0 && mower < now.mowers.size();
    }

    // ---- fields

    private static String fieldPattern() {
        String test = "[mkpetd][<=>]\\d\\d?";
        String part = test;
        String either = joined(part);
        for (int depth = 0; depth < 4; depth++) {
            part = "(?:" + test + "|!" + part + "|\\(" + either + "\\))";
            either = joined(part);
        }
        String clause = "(?:(?:fast|slow) \\d\\d? " + either + "|(?:gap|tire|long) \\d\\d?)";
        return clause + "(?:;" + clause + "){0,9}";
    }

    private static String joined(String part) {
        String both = part + "(?:&" + part + ")*";
        return "(?:" + both + "(?:\\|" + both + ")*)";
    }

    /** -1, or the length of the longest beginning of the text with which some field begins. */
    static int fault(String text) {
        if (FIELD.matcher(text).matches()) {
            return -1;
        }
        for (int i = text.length(); i > 0; i--) {
            Matcher beginning = FIELD.matcher(text.substring(0, i));
            if (beginning.matches() || beginning.hitEnd()) {
                return i;
            }
        }
        return 0;
    }

    static List<Clause> clauses(String text) {
        List<Clause> clauses = new ArrayList<>();
        for (String told : text.split(";")) {
            String[] parts = told.split(" ");
            Clause c = new Clause();
            c.word = parts[0];
            c.n = Integer.parseInt(parts[1]);
            c.test = parts.length > 2 ? asked(parts[2]) : null;
            clauses.add(c);
        }
        return clauses;
    }

    private static Predicate<int[]> asked(String e) {
        for (char sign : new char[] {'|', '&'}) {
            int depth = 0;
            for (int i = e.length() - 1; i >= 0; i--) {
                depth += e.charAt(i) == ')' ? 1 : e.charAt(i) == '(' ? -1 : 0;
                if (depth == 0 && e.charAt(i) == sign) {
                    Predicate<int[]> left = asked(e.substring(0, i));
                    Predicate<int[]> right = asked(e.substring(i + 1));
                    return sign == '|' ? left.or(right) : left.and(right);
                }
            }
        }
        if (e.charAt(0) == '!') {
            return asked(e.substring(1)).negate();
        }
        if (e.charAt(0) == '(') {
            return asked(e.substring(1, e.length() - 1));
        }
        int letter = "mkpetd".indexOf(e.charAt(0));
        int n = Integer.parseInt(e.substring(2));
        char how = e.charAt(1);
        return is -> how == '<' ? is[letter] < n : how == '=' ? is[letter] == n : is[letter] > n;
    }

    int field() {
        if (fields.size() >= 6) {
            return -4;
        }
        String read = text;
        text = "";
        int fault = fault(read);
        if (fault >= 0) {
            return -10 - fault;
        }
        now.field = clauses(read);
        fields.add(now.field);
        return fields.size() - 1;
    }

    // ---- what is asked

    /** k and how much, for the least k of several by which it is most. */
    static int[] most(int first, int last, ToIntFunction<Integer> total) {
        int[] best = {first, total.applyAsInt(first)};
        for (int k = first + 1; k <= last; k++) {
            int is = total.applyAsInt(k);
            if (is > best[1]) {
                best = new int[] {k, is};
            }
        }
        return best;
    }

    int order(int n, int k) {
        if (k < -1 || k > 4) {
            return -1;
        }
        if (n < 1 || n > 12) {
            return -2;
        }
        if (now.mowers.size() > 5) {
            return -9;
        }
        List<List<Integer>> rows = new ArrayList<>();
        rows(new ArrayList<>(), rows);
        int best = -1;
        List<Integer> row = null;
        for (List<Integer> line : rows) {
            State c = now.copy();
            c.line = line;
            c.mowers.forEach(m -> m.at = 0);
            int all = c.after(n).all();
            if (all > best) {
                best = all;
                row = line;
            }
        }
        return k == -1 ? best : k < row.size() ? row.get(k) : -5;
    }

    private void rows(List<Integer> begun, List<List<Integer>> rows) {
        if (begun.size() == now.mowers.size()) {
            rows.add(new ArrayList<>(begun));
        }
        for (int m = 0; m < now.mowers.size(); m++) {
            if (!begun.contains(m)) {
                begun.add(m);
                rows(begun, rows);
                begun.remove(begun.size() - 1);
            }
        }
    }

    int whets(int n, int what) {
        return chosen(n, what, 60, 1, 16, k -> {
            State c = now.copy();
            for (int number = 1; number <= n; number++) {
                if (k != 16 && number % k == 0) {
                    c.whetting();
                } else {
                    c.minuteGoes();
                }
            }
            return c.all();
        });
    }

    int apart(int n, int what) {
        return chosen(n, what, 60, 0, 9, k -> {
            State c = now.copy();
            c.otherGap = k;
            return c.after(n).all();
        });
    }

    int paused(int n, int what) {
        return chosen(n, what, 30, 0, n, k -> {
            State c = now.after(k);
            c.pauses(5);
            return c.after(n - k).all();
        });
    }

    private static int chosen(int n, int what, int top, int first, int last, ToIntFunction<Integer> total) {
        if (what != 0 && what != 1) {
            return -1;
        }
        return n < 1 || n > top ? -2 : most(first, last, total)[what];
    }

    int rest(int n, int what) {
        int bad = chosen(n, what, 60, 0, 0, k -> 0);
        if (bad < 0) {
            return bad;
        }
        int asItIs = now.after(n).all();
        int[] best = {-5, asItIs};
        for (int m = 0; m < now.mowers.size(); m++) {
            int all = now.stoppedMore(m, 5).after(n).all();
            if (all > best[1]) {
                best = new int[] {m, all};
            }
        }
        return best[0] < 0 ? -5 : best[what];
    }

    int stop(int mower, int r, int n, int what) {
        if (!has(mower) || what != 0 && what != 1) {
            return -100001;
        }
        if (r < 1 || r > 20 || n < 1 || n > 60) {
            return -100002;
        }
        State asItIs = now.after(n);
        State less = now.stoppedMore(mower, r).after(n);
        int hits = 0;
        for (Mower m : less.mowers) {
            hits += m.number != mower && m.at < asItIs.mowers.get(m.number).at ? 1 << m.number : 0;
        }
        return what == 0 ? asItIs.all() - less.all() : hits;
    }

    int alone(int n) {
        if (n < 1 || n > 60) {
            return -100002;
        }
        int more = now.after(n).all();
        for (Mower m : now.mowers) {
            State c = now.copy();
            c.line = new ArrayList<>(List.of(m.number));
            more -= c.after(n).mowers.get(m.number).at;
        }
        return more;
    }

    int on(int n, int what) {
        boolean asksAll = what == 0;
        boolean asksAt = what >= 10 && what < 16 && has(what - 10);
        boolean asksHeld = what >= 20 && has(what - 20);
        if (!asksAll && !asksAt && !asksHeld) {
            return -1;
        }
        if (n < 0 || n > 60) {
            return -2;
        }
        return asksAll ? now.after(n).all() : asksAt ? now.after(n).mowers.get(what - 10).at
            : held(now, what - 20, n);
    }

    static int held(State from, int mower, int n) {
        State c = from.copy();
        int times = 0;
        for (int i = 0; i < n; i++) {
            times += (c.minuteGoes() & 1 << mower) != 0 ? 1 : 0;
        }
        return times;
    }

    int done() {
        for (int n = 0; n <= 120; n++) {
            if (now.after(n).mowers.stream().allMatch(m -> m.at >= now.length())) {
                return n;
            }
        }
        return -5;
    }

    int who() {
        int bits = 0;
        for (Mower m : now.mowers) {
            State c = now.stoppedMore(m.number, 3);
            boolean so = now.seen.stream().allMatch(s -> c.after(s[1]).mowers.get(s[0]).at == s[2]);
            bits += so ? 1 << m.number : 0;
        }
        return bits;
    }

    long odds(int mower, int n, int part) {
        if (!has(mower) || n < 1 || n > 60) {
            return Long.MIN_VALUE;
        }
        int cases = 0;
        for (Mower m : now.mowers) {
            cases += held(now.stoppedMore(m.number, 5), mower, n) > 0 ? 1 : 0;
        }
        return lowest(cases, now.mowers.size(), part);
    }

    long mean(int n, int part) {
        boolean none = now.mowers.isEmpty() || n < 1 || n > 60;
        return none ? Long.MIN_VALUE : lowest(now.after(n).all(), now.mowers.size(), part);
    }

    private static long lowest(int above, int below, int part) {
        for (int d = below; d > 1; d--) {
            if (above % d == 0 && below % d == 0) {
                return lowest(above / d, below / d, part);
            }
        }
        return part == 0 ? above : part == 1 ? below : Long.MIN_VALUE;
    }

    int planned() {
        State c = now.copy();
        for (int what : now.plan) {
            if (what == 0) {
                c.minuteGoes();
            } else if (what == 1) {
                c.whetting();
            } else {
                c.pauses(1);
            }
        }
        return c.all();
    }

    int looked() {
        int held = now.copy().minuteGoes();
        return now.book.stream().filter(m -> (held & 1 << m) == 0).findFirst().orElse(-5);
    }

    int judge(int tape, int i) {
        if (tape < 0 || tape > 5) {
            return -1;
        }
        if (sorts[tape] != -1 && sorts[tape] != 1) {
            return -12;
        }
        for (Mower m : now.mowers) {
            long place = (long) i + m.number;
            if (sorts[tape] == -1 || i < 0 || place >= tapes[tape].length) {
                return 100 + m.number;
            }
            if (tapes[tape][(int) place] != m.at) {
                return m.number;
            }
        }
        return -5;
    }

    // ---- acts: which kind's body of which act, found along ABOVE

    private static final int[][] BODIES = {{10, 11, 12}, {0, 20, 0}, {30, 0, 0}, {0, 0, 40}, {50, 51, 0}, {0, 0, 60},
        {71, 70, 0}};

    int act(int mower, int act, int x) {
        trace = new ArrayList<>();
        return has(mower) && act >= 0 && act < 3 ? run(now.mowers.get(mower), now.mowers.get(mower).kind, act, x) : 0;
    }

    private int run(Mower m, int from, int act, int x) {
        int kind = from;
        while (BODIES[kind][act] == 0) {
            kind = ABOVE[kind];
        }
        trace.add(BODIES[kind][act]);
        int up = ABOVE[kind];
        switch (BODIES[kind][act]) {
            case 10: return x + m.number;
            case 11: return run(m, m.kind, 0, x) - m.v;
            case 12: return run(m, m.kind, 1, x) * 2;
            case 20: return run(m, up, 1, x) ^ 6;
            case 30: return run(m, up, 0, x * 3);
            case 40: return run(m, up, 2, x) + run(m, m.kind, 1, 1);
            case 50: return -run(m, up, 0, x);
            case 51: return run(m, up, 1, x + 1);
            case 60: return run(m, up, 2, x - m.number);
            case 70: return run(m, up, 1, x) + run(m, up, 0, 2);
            default: return run(m, up, 0, x) ^ m.v;
        }
    }

    int taken(int mower, int k) {
        if (k < 0 || k > 6) {
            return -2;
        }
        if (!has(mower)) {
            return -11;
        }
        int kind = now.mowers.get(mower).kind;
        for (int is = kind; is >= 0; is = ABOVE[is]) {
            if (is == k) {
                return kind;
            }
        }
        return -12;
    }

    int count(int what) {
        int[] counts = {now.mowers.size(), fields.size(), now.seen.size(), now.plan.size(), now.book.size(),
            text.length(), trace.size()};
        return what < 0 || what > 6 ? -2 : counts[what];
    }

    int tape(int tape, int sort, int n) {
        if (tape < 0 || tape > 5) {
            return -1;
        }
        if (sort < -1 || sort > 4 || sort >= 0 && n > 60) {
            return -2;
        }
        if (sort >= 0 && n < 0) {
            return -14;
        }
        sorts[tape] = sort;
        tapes[tape] = sort == -1 ? null : new long[n];
        return 1;
    }

    int item(int tape, int i, long v) {
        if (tape < 0 || tape > 5) {
            return -1;
        }
        if (tapes[tape] == null) {
            return -11;
        }
        if (i < 0 || i >= tapes[tape].length) {
            return -13;
        }
        int unused = new int[] {56, 48, 32, 0, 0}[sorts[tape]];
        tapes[tape][i] = sorts[tape] == 4 ? (v == 0 ? 0 : 1) : v << unused >> unused;
        return 1;
    }

    long read(int tape, int i) {
        boolean there = tape >= 0 && tape < 6 && tapes[tape] != null && i >= 0 && i < tapes[tape].length;
        return there ? tapes[tape][i] : Long.MIN_VALUE;
    }

    int shift(int tape, int i, int other, int j, int n) {
        if (tape < 0 || tape > 5 || other < 0 || other > 5) {
            return -1;
        }
        if (tapes[tape] == null || tapes[other] == null) {
            return -11;
        }
        if (sorts[tape] != sorts[other]) {
            return -12;
        }
        if (n < 0 || i < 0 || j < 0 || (long) i + n > tapes[tape].length || (long) j + n > tapes[other].length) {
            return -13;
        }
        long[] moved = Arrays.copyOfRange(tapes[tape], i, i + n);
        for (int k = 0; k < n; k++) {
            tapes[other][j + k] = moved[k];
        }
        return n;
    }
}
