import java.util.Random;

/** Random runs of calls, each answer compared with the model's, which was written apart from the program. */
public final class ModelTests {
    private static final int RUNS = 400, CALLS = 500;

    private final Random dice;
    private final NineMowers x = new NineMowers();
    private final Model model = new Model();
    private final int run;

    private ModelTests(int run) {
        this.run = run;
        this.dice = new Random(run);
    }

    public static void main(String[] args) {
        for (int run = 0; run < RUNS; run++) {
            new ModelTests(run).plays();
        }
        Due.close("ModelTests");
    }

    private void due(String call, long got, long want, int... with) {
        StringBuilder told = new StringBuilder("run ").append(run).append(": ").append(call);
        for (int argument : with) {
            told.append(' ').append(argument);
        }
        Due.due(told.toString(), got, want);
    }

    private int from(int low, int high) {
        return low + dice.nextInt(high - low + 1);
    }

    /** Mostly of low .. high, now and then just outside, seldom far outside. */
    private int about(int low, int high) {
        int how = dice.nextInt(40);
        if (how == 0) {
            return dice.nextBoolean() ? Integer.MAX_VALUE - dice.nextInt(3) : Integer.MIN_VALUE + dice.nextInt(3);
        }
        return how < 4 ? (dice.nextBoolean() ? low - 1 : high + 1) : from(low, high);
    }

    private int who() {
        return about(0, Math.max(0, model.now.mowers.size() - 1));
    }

    private void plays() {
        if (run % 8 != 0) {
            for (int m = from(1, 6); m > 0; m--) {
                mower();
            }
        }
        if (run % 3 != 0) {
            feedsField();
        }
        for (int call = 0; call < CALLS && !Due.anyFailed(); call++) {
            one();
            if (call % 25 == 0) {
                shown();
            }
        }
    }

    private void one() {
        int how = dice.nextInt(100);
        if (how < 40) {
            changes();
        } else if (how < 70) {
            asks();
        } else if (how < 74) {
            feedsField();
        } else if (how < 90) {
            tapes();
        } else {
            acts();
        }
    }

    private void mower() {
        int kind = about(0, 6);
        int v = about(0, 9);
        int want = kind < 0 || kind > 6 ? -1 : v < 0 || v > 9 ? -2 : model.now.mowers.size() >= 6 ? -4
            : model.now.mowers.size();
        if (want >= 0) {
            Model.Mower m = new Model.Mower();
            m.number = want;
            m.kind = kind;
            m.v = v;
            model.now.mowers.add(m);
            model.now.line.add(want);
        }
        due("mower", x.mower(kind, v), want, kind, v);
    }

    private void changes() {
        switch (dice.nextInt(14)) {
            case 0: mower(); break;
            case 1: set(); break;
            case 2: row(); break;
            case 3: place(); break;
            case 4:
            case 5: minute(); break;
            case 6: whet(); break;
            case 7: pause(); break;
            case 8: see(); break;
            case 9: plan(); break;
            case 10: book(); break;
            case 11:
                if (dice.nextInt(3) == 0) {
                    model.image = model.now.copy();
                    due("image", x.image(), model.now.mowers.size());
                }
                break;
            case 12:
                if (dice.nextInt(3) == 0) {
                    due("undo", x.undo(), model.image == null ? -3 : model.image.mowers.size());
                    model.now = model.image == null ? model.now : model.image.copy();
                }
                break;
            default: set(); break;
        }
    }

    private void set() {
        int m = who();
        int what = about(0, 3);
        int[] most = {dice.nextInt(6) == 0 ? 9999 : 60, 10, 99, dice.nextInt(4) == 0 ? 99 : 6};
        int[] top = {9999, 10, 99, 99};
        int n = about(0, what >= 0 && what < 4 ? most[what] : 10);
        int want = -1;
        if (model.has(m) && what >= 0 && what < 4) {
            Model.Mower mower = model.now.mowers.get(m);
            want = n < 0 || n > top[what] ? -2 : new int[] {mower.at, mower.edge, mower.tired, mower.stopped}[what];
            if (want != -2) {
                mower.at = what == 0 ? n : mower.at;
                mower.edge = what == 1 ? n : mower.edge;
                mower.tired = what == 2 ? n : mower.tired;
                mower.stopped = what == 3 ? n : mower.stopped;
            }
        }
        due("set", x.set(m, what, n), want, m, what, n);
    }

    private void row() {
        int m = who();
        int part = about(0, 3);
        int n = about(0, 9);
        int want = !model.has(m) || part < 0 || part > 3 ? -1 : n < 0 || n > 9 ? -2
            : model.now.mowers.get(m).kind != 6 ? -3 : model.now.mowers.get(m).row[part];
        if (want >= 0) {
            model.now.mowers.get(m).row[part] = n;
        }
        due("row", x.row(m, part, n), want, m, part, n);
    }

    private void place() {
        int m = who();
        int k = who();
        int want = !model.has(m) || !model.has(k) ? -1 : model.now.line.indexOf(m);
        if (want >= 0) {
            model.now.line.remove(want);
            model.now.line.add(k, m);
        }
        due("place", x.place(m, k), want, m, k);
    }

    private void minute() {
        due("minute", x.minute(), model.now.minute >= 9999 ? -3 : model.now.minuteGoes());
    }

    private void whet() {
        int want = -3;
        if (model.now.minute < 9999) {
            model.now.whetting();
            want = model.now.minute;
        }
        due("whet", x.whet(), want);
    }

    private void pause() {
        int n = about(1, run % 5 == 0 ? 60 : 4);
        int want = n < 1 || n > 60 ? -2 : model.now.minute + n > 9999 ? -3 : model.now.minute + n;
        if (want >= 0) {
            model.now.pauses(n);
        }
        due("pause", x.pause(n), want, n);
    }

    private void see() {
        int m = dice.nextInt(12) == 0 ? -1 : who();
        int n = about(0, 30);
        int at = about(0, 60);
        boolean bad = n < 0 || n > 30 || at < 0 || at > 9999;
        if (m >= 0 && model.has(m) && !bad && dice.nextInt(3) > 0) {
            at = model.now.stoppedMore(from(0, model.now.mowers.size() - 1), 3).after(n).mowers.get(m).at;
        }
        int want = m == -1 ? 0 : !model.has(m) ? -1 : bad ? -2 : model.now.seen.size() >= 6 ? -4
            : model.now.seen.size() + 1;
        if (m == -1) {
            model.now.seen.clear();
        } else if (want > 0) {
            model.now.seen.add(new int[] {m, n, at});
        }
        due("see", x.see(m, n, at), want, m, n, at);
    }

    private void plan() {
        int what = dice.nextInt(20) == 0 ? -1 : dice.nextInt(20) == 0 ? 3 : from(0, 2);
        int want = what == -1 ? 0 : what > 2 ? -1 : model.now.plan.size() >= 10 ? -4 : model.now.plan.size() + 1;
        if (what == -1) {
            model.now.plan.clear();
        } else if (want > 0) {
            model.now.plan.add(what);
        }
        due("plan", x.plan(what), want, what);
    }

    private void book() {
        int m = dice.nextInt(20) == 0 ? -1 : who();
        int want = m == -1 ? 0 : !model.has(m) ? -1 : model.now.book.size() >= 8 ? -4 : model.now.book.size() + 1;
        if (m == -1) {
            model.now.book.clear();
        } else if (want > 0) {
            model.now.book.add(m);
        }
        due("book", x.book(m), want, m);
    }

    private void asks() {
        int m = who();
        int n = about(1, 60);
        int what = about(0, 1);
        switch (dice.nextInt(14)) {
            case 0:
                int asked = about(0, 2) * 10 + who();
                due("on", x.on(n, asked), model.on(n, asked), n, asked);
                break;
            case 1: due("done", x.done(), model.done()); break;
            case 2:
                int few = about(1, dice.nextInt(8) == 0 ? 12 : 4);
                int k = about(-1, 4);
                due("order", x.order(few, k), model.order(few, k), few, k);
                break;
            case 3: due("whets", x.whets(n, what), model.whets(n, what), n, what); break;
            case 4: due("apart", x.apart(n, what), model.apart(n, what), n, what); break;
            case 5:
                int r = about(1, 20);
                due("stop", x.stop(m, r, n, what), model.stop(m, r, n, what), m, r, n, what);
                break;
            case 6: due("alone", x.alone(n), model.alone(n), n); break;
            case 7:
            case 8: due("rest", x.rest(n, what), model.rest(n, what), n, what); break;
            case 9:
                int some = about(1, 30);
                due("paused", x.paused(some, what), model.paused(some, what), some, what);
                break;
            case 10: due("who", x.who(), model.who()); break;
            case 11: due("odds", x.odds(m, n, what), model.odds(m, n, what), m, n, what); break;
            case 12: due("mean", x.mean(n, what), model.mean(n, what), n, what); break;
            default:
                due("planned", x.planned(), model.planned());
                due("looked", x.looked(), model.looked());
                break;
        }
    }

    private void feedsField() {
        String text = fieldText();
        if (dice.nextInt(3) == 0 && !text.isEmpty()) {
            int place = dice.nextInt(text.length());
            String signs = "mkpetd<=>0123456789 ;|&!()fastlowgpireng";
            char sign = signs.charAt(dice.nextInt(signs.length()));
            int how = dice.nextInt(3);
            text = text.substring(0, place) + (how < 2 ? String.valueOf(sign) : "")
                + (how == 0 ? text.substring(place) : text.substring(place + 1));
        }
        for (char sign : text.toCharArray()) {
            int want = model.text.length() >= 100 ? -4 : model.text.length() + 1;
            model.text += want > 0 ? String.valueOf(sign) : "";
            due("feed", x.feed(sign), want, sign);
        }
        int bad = dice.nextBoolean() ? -1 - dice.nextInt(3) : 128 + dice.nextInt(3);
        due("feed", x.feed(bad), -2, bad);
        String read = model.text;
        due("field " + read, x.field(), model.field());
    }

    private String fieldText() {
        StringBuilder text = new StringBuilder();
        int clauses = dice.nextInt(10) == 0 ? from(9, 11) : from(1, 4);
        for (int i = 0; i < clauses; i++) {
            text.append(i == 0 ? "" : ";");
            int word = clauses > 8 ? from(2, 4) : dice.nextInt(5);
            String n = dice.nextInt(3) == 0 ? String.valueOf(from(10, 99)) : String.valueOf(from(0, 9));
            text.append(new String[] {"fast ", "slow ", "gap ", "tire ", "long "}[word]).append(n);
            if (word < 2) {
                text.append(' ').append(either(0));
            }
        }
        return text.length() > 100 ? text.substring(0, 100) : text.toString();
    }

    private String either(int depth) {
        return dice.nextInt(3) == 0 ? both(depth) + "|" + either(depth) : both(depth);
    }

    private String both(int depth) {
        return dice.nextInt(3) == 0 ? part(depth) + "&" + both(depth) : part(depth);
    }

    private String part(int depth) {
        int how = depth > 5 ? 9 : dice.nextInt(8);
        if (how == 0) {
            return "!" + part(depth + 1);
        }
        if (how == 1) {
            return "(" + either(depth + 1) + ")";
        }
        int[] top = {5, 6, 5, 10, 9, 9};
        int letter = dice.nextInt(6);
        return "" + "mkpetd".charAt(letter) + "<=>".charAt(dice.nextInt(3)) + from(0, top[letter]);
    }

    private void tapes() {
        int tape = about(0, 2);
        int i = about(0, 8);
        switch (dice.nextInt(6)) {
            case 0:
                int sort = dice.nextInt(3) > 0 ? 1 : about(-1, 4);
                int size = dice.nextInt(4) == 0 ? about(0, 60) : from(0, 9);
                due("tape", x.tape(tape, sort, size), model.tape(tape, sort, size), tape, sort, size);
                break;
            case 1:
                long v = dice.nextBoolean() ? dice.nextLong() : from(-300, 300);
                due("item", x.item(tape, i, v), model.item(tape, i, v), tape, i);
                break;
            case 2: due("read", x.read(tape, i), model.read(tape, i), tape, i); break;
            case 3:
                int other = about(0, 2);
                int j = about(0, 8);
                int n = about(0, 5);
                due("shift", x.shift(tape, i, other, j, n), model.shift(tape, i, other, j, n), tape, i, other, j, n);
                break;
            case 4:
                if (i >= 0 && i < 20) {
                    for (int m = 0; m < model.now.mowers.size() && dice.nextInt(9) > 0; m++) {
                        int at = model.now.mowers.get(m).at;
                        due("item", x.item(tape, i + m, at), model.item(tape, i + m, at), tape, i + m, at);
                    }
                }
                due("judge", x.judge(tape, i), model.judge(tape, i), tape, i);
                break;
            default: due("judge", x.judge(tape, i), model.judge(tape, i), tape, i); break;
        }
    }

    private void acts() {
        int m = who();
        int act = about(0, 2);
        int v = dice.nextInt(4) == 0 ? dice.nextInt() : from(-50, 50);
        int k = about(0, 6);
        due("act", x.act(m, act, v), model.act(m, act, v), m, act, v);
        for (int i = -1; i < 21; i++) {
            due("trace", x.trace(i), i >= 0 && i < model.trace.size() ? model.trace.get(i) : -1, i);
        }
        due("taken", x.taken(m, k), model.taken(m, k), m, k);
        int what = about(0, 6);
        due("count", x.count(what), model.count(what), what);
    }

    private void shown() {
        for (int m = 0; m < model.now.mowers.size(); m++) {
            Model.Mower is = model.now.mowers.get(m);
            int[] all = {is.kind, is.v, is.at, is.edge, is.tired, is.stopped, model.now.line.indexOf(m),
                model.now.pace(is), model.now.stride(is)};
            for (int what = 0; what < 9; what++) {
                due("of", x.of(m, what), all[what], m, what);
            }
            due("told", x.told(10 + m), model.now.line.get(m), 10 + m);
        }
        due("MINUTE", x.told(0), model.now.minute);
        due("GAP", x.told(1), model.now.gap());
        due("TIRE", x.told(2), model.now.last("tire", 1));
        due("LENGTH", x.told(3), model.now.length());
        due("nobody", x.of(model.now.mowers.size(), 0), -1);
        for (int what = 0; what < 7; what++) {
            due("count", x.count(what), model.count(what), what);
        }
    }
}
