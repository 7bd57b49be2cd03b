/** Each refused and each asked call is made on one of two like objects; both answer alike from then on. */
final class RefusedEdges {
    private static final int NONE = -1, BAD = -2, STATE = -3, FULL = -4;
    private static final int NOTHING = -11, CAST = -12, PLACE = -13, SIZE = -14, FAR_NONE = -100001, FAR_BAD = -100002;
    private static final long NO = Long.MIN_VALUE;
    private static final int PLAIN = 0, FILLED = 1, LATE = 2;

    private interface Call {
        long of(NineMowers x);
    }

    private static final String[] UNTOUCHED = new String[3];

    private RefusedEdges() {
    }

    static void all() {
        for (int how = PLAIN; how <= LATE; how++) {
            UNTOUCHED[how] = answers(made(how));
            asked(how);
        }
        mowers();
        asking();
        telling();
        tapes();
        full();
        late();
    }

    private static void refused(int how, long want, Call call) {
        NineMowers x = made(how);
        Document.due("a refused call", call.of(x), want);
        Document.holds("it changes nothing", UNTOUCHED[how].equals(answers(x)));
    }

    private static void asked(int how) {
        Call[] calls = {x -> x.of(0, 8), x -> x.told(10), x -> x.on(60, 0), x -> x.on(60, 11), x -> x.on(60, 21),
            x -> x.done(), x -> x.order(12, -1), x -> x.order(3, 0), x -> x.whets(60, 1), x -> x.apart(60, 1),
            x -> x.stop(0, 20, 60, 0), x -> x.stop(0, 20, 60, 1), x -> x.alone(60), x -> x.rest(60, 1),
            x -> x.paused(30, 1), x -> x.who(), x -> x.odds(1, 60, 0), x -> x.mean(60, 1), x -> x.planned(),
            x -> x.looked(), x -> x.judge(0, 0), x -> x.trace(0), x -> x.taken(0, 0), x -> x.count(6),
            x -> x.read(0, 0)};
        for (int i = 0; i < calls.length; i++) {
            NineMowers x = made(how);
            long answer = calls[i].of(x);
            Document.due("asked " + i + " again", calls[i].of(x), answer);
            Document.holds("asked " + i + ", it changes nothing", UNTOUCHED[how].equals(answers(x)));
        }
    }

    private static NineMowers made(int how) {
        NineMowers x = how == LATE ? Due.atMinute(9999, "gap 3", 5, 4, 0, 3) : Due.with("gap 3", 5, 4, 6, 3, 1, 0, 2, 5, 0, 9);
        x.place(1, 0);
        x.set(1, 3, 2);
        x.set(0, 2, 41);
        x.set(0, 0, 30);
        x.row(1, 2, 8);
        x.see(0, 3, 20);
        x.see(1, 2, 0);
        x.plan(0);
        x.plan(2);
        x.book(1);
        x.book(0);
        x.tape(0, 1, 3);
        x.item(0, 0, 30);
        x.item(0, 1, 4);
        x.tape(1, 2, 2);
        x.item(1, 1, 1L << 31);
        x.tape(2, 0, 0);
        if (how == FILLED) {
            fills(x);
            return x;
        }
        x.minute();
        x.image();
        x.minute();
        x.act(1, 2, 7);
        x.set(0, 3, 1);
        x.see(1, 1, 1);
        x.plan(1);
        x.book(1);
        Due.feed(x, "fast 9 k=5;gap 1");
        return x;
    }

    private static void fills(NineMowers x) {
        x.mower(3, 3);
        for (int i = 1; i < 6; i++) {
            Due.field(x, "gap " + i);
        }
        for (int i = 0; i < 100; i++) {
            x.feed(i);
        }
        for (int i = 0; i < 10; i++) {
            x.see(i % 6, i, 20);
            x.plan(i % 3);
            x.book(i % 6);
        }
        x.act(1, 2, 7);
    }

    private static String answers(NineMowers x) {
        StringBuilder all = new StringBuilder(Due.shown(x));
        adds(all, x.on(5, 0), x.planned(), x.who(), x.looked(), x.row(1, 2, 8));
        for (int tape = 0; tape < 6; tape++) {
            adds(all, x.judge(tape, 0), x.shift(tape, 0, tape, 0, 0));
            for (int i = 0; i < 4; i++) {
                adds(all, x.read(tape, i));
            }
        }
        adds(all, x.field(), x.told(1), x.on(5, 0), x.undo(), x.planned(), x.who(), x.looked(), x.on(5, 0), x.row(1, 2, 8));
        return all.append(Due.shown(x)).toString();
    }

    private static void adds(StringBuilder all, long... answers) {
        for (long answer : answers) {
            all.append(answer).append(' ');
        }
    }

    private static void mowers() {
        refused(PLAIN, NONE, x -> x.mower(7, 0));
        refused(PLAIN, NONE, x -> x.mower(-1, 0));
        refused(PLAIN, BAD, x -> x.mower(0, 10));
        refused(PLAIN, BAD, x -> x.mower(6, -1));
        refused(PLAIN, NONE, x -> x.of(5, 0));
        refused(PLAIN, NONE, x -> x.of(0, 9));
        refused(PLAIN, NONE, x -> x.set(5, 0, 1));
        refused(PLAIN, NONE, x -> x.set(0, 4, 1));
        refused(PLAIN, BAD, x -> x.set(0, 0, 10000));
        refused(PLAIN, BAD, x -> x.set(0, 1, 11));
        refused(PLAIN, BAD, x -> x.set(0, 2, 100));
        refused(PLAIN, BAD, x -> x.set(0, 3, -1));
        refused(PLAIN, NONE, x -> x.row(5, 0, 1));
        refused(PLAIN, NONE, x -> x.row(1, 4, 1));
        refused(PLAIN, BAD, x -> x.row(1, 0, 10));
        refused(PLAIN, STATE, x -> x.row(0, 0, 1));
        refused(PLAIN, NONE, x -> x.place(5, 0));
        refused(PLAIN, NONE, x -> x.place(0, 5));
        refused(PLAIN, NONE, x -> x.place(0, -1));
        refused(PLAIN, BAD, x -> x.feed(128));
        refused(PLAIN, BAD, x -> x.feed(-1));
        refused(PLAIN, NONE, x -> x.told(4));
        refused(PLAIN, BAD, x -> x.pause(0));
        refused(PLAIN, BAD, x -> x.pause(61));
    }

    private static void asking() {
        refused(PLAIN, NONE, x -> x.on(1, 15));
        refused(PLAIN, BAD, x -> x.on(61, 0));
        refused(PLAIN, NONE, x -> x.order(1, 5));
        refused(PLAIN, BAD, x -> x.order(13, 0));
        refused(PLAIN, NONE, x -> x.whets(1, 2));
        refused(PLAIN, BAD, x -> x.whets(61, 0));
        refused(PLAIN, NONE, x -> x.apart(1, 2));
        refused(PLAIN, BAD, x -> x.apart(61, 0));
        refused(PLAIN, FAR_NONE, x -> x.stop(5, 1, 1, 0));
        refused(PLAIN, FAR_BAD, x -> x.stop(0, 21, 1, 0));
        refused(PLAIN, FAR_BAD, x -> x.alone(61));
        refused(PLAIN, NONE, x -> x.rest(1, 2));
        refused(PLAIN, BAD, x -> x.rest(61, 0));
        refused(PLAIN, NONE, x -> x.paused(1, 2));
        refused(PLAIN, BAD, x -> x.paused(31, 0));
        refused(PLAIN, NO, x -> x.odds(5, 1, 0));
        refused(PLAIN, NO, x -> x.mean(61, 0));
    }

    private static void telling() {
        refused(PLAIN, NONE, x -> x.see(5, 0, 0));
        refused(PLAIN, NONE, x -> x.see(-2, 0, 0));
        refused(PLAIN, BAD, x -> x.see(0, 31, 0));
        refused(PLAIN, BAD, x -> x.see(0, 0, 10000));
        refused(PLAIN, NONE, x -> x.plan(3));
        refused(PLAIN, NONE, x -> x.plan(-2));
        refused(PLAIN, NONE, x -> x.book(5));
        refused(PLAIN, NONE, x -> x.book(-2));
        refused(PLAIN, NONE, x -> x.trace(20));
        refused(PLAIN, BAD, x -> x.taken(0, 7));
        refused(PLAIN, NOTHING, x -> x.taken(5, 0));
        refused(PLAIN, CAST, x -> x.taken(0, 1));
        refused(PLAIN, BAD, x -> x.count(7));
    }

    private static void tapes() {
        refused(PLAIN, NONE, x -> x.judge(6, 0));
        refused(PLAIN, CAST, x -> x.judge(1, 0));
        refused(PLAIN, NONE, x -> x.tape(6, 0, 1));
        refused(PLAIN, BAD, x -> x.tape(0, 5, 1));
        refused(PLAIN, BAD, x -> x.tape(0, -2, 1));
        refused(PLAIN, BAD, x -> x.tape(0, 0, 61));
        refused(PLAIN, SIZE, x -> x.tape(0, 0, -1));
        refused(PLAIN, NONE, x -> x.item(6, 0, 9));
        refused(PLAIN, NOTHING, x -> x.item(3, 0, 9));
        refused(PLAIN, PLACE, x -> x.item(0, 3, 9));
        refused(PLAIN, PLACE, x -> x.item(0, -1, 9));
        refused(PLAIN, PLACE, x -> x.item(2, 0, 9));
        refused(PLAIN, NO, x -> x.read(6, 0));
        refused(PLAIN, NONE, x -> x.shift(6, 0, 0, 0, 1));
        refused(PLAIN, NONE, x -> x.shift(0, 0, -1, 0, 1));
        refused(PLAIN, NOTHING, x -> x.shift(0, 0, 3, 0, 1));
        refused(PLAIN, CAST, x -> x.shift(0, 0, 1, 0, 1));
        refused(PLAIN, PLACE, x -> x.shift(0, 0, 0, 1, 3));
        refused(PLAIN, PLACE, x -> x.shift(0, 1, 0, 0, 3));
        refused(PLAIN, PLACE, x -> x.shift(0, -1, 0, 0, 1));
        refused(PLAIN, PLACE, x -> x.shift(0, 0, 0, -1, 1));
        refused(PLAIN, PLACE, x -> x.shift(0, 0, 0, 1, -1));
    }

    private static void full() {
        refused(FILLED, FULL, x -> x.mower(0, 0));
        refused(FILLED, FULL, x -> x.feed(1));
        refused(FILLED, FULL, x -> x.field());
        refused(FILLED, FULL, x -> x.see(0, 0, 0));
        refused(FILLED, FULL, x -> x.plan(1));
        refused(FILLED, FULL, x -> x.book(0));
        refused(FILLED, -9, x -> x.order(1, 0));
        refused(FILLED, STATE, x -> x.undo());
    }

    private static void late() {
        // made() lets two MINUTES go, which are refused at 9999 as well.
        refused(LATE, STATE, x -> x.minute());
        refused(LATE, STATE, x -> x.whet());
        refused(LATE, STATE, x -> x.pause(1));
        refused(LATE, STATE, x -> x.pause(60));
        refused(LATE, BAD, x -> x.pause(61));
    }
}
