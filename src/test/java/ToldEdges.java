/** The edges that the terms name of what is told by hand, of ACTS and of THE IMAGE. */
final class ToldEdges {
    private static final int NONE = -1, BAD = -2, STATE = -3, FULL = -4, NOBODY = -5;
    private static final int MOWER = 0, STEADY = 1, HASTY = 2, BOY = 3, OLD = 4, PRESSED = 5, TOLD = 6;
    private static final int LEAST = Integer.MIN_VALUE, MOST = Integer.MAX_VALUE;

    private ToldEdges() {
    }

    static void all() {
        seen();
        who();
        plan();
        book();
        acts();
        bodies();
        trace();
        image();
        imageLeaves();
    }

    private static void due(String call, long got, long want) {
        Document.due(call, got, want);
    }

    private static NineMowers with(String text, int... kindsAndVs) {
        return Due.with(text, kindsAndVs);
    }

    private static void seen() {
        Document.says("SEEN told by hand: a MOWER, and AT behind n MINUTES (0 .. 30) from now (6 at most).");
        NineMowers x = with("", STEADY, 0, STEADY, 0);
        for (int n : new int[] {LEAST, -1, 31, MOST}) {
            due("n " + n, x.see(0, n, 0), BAD);
        }
        for (int at : new int[] {LEAST, -1, 10000, MOST}) {
            due("AT " + at, x.see(0, 0, at), BAD);
        }
        for (int mower : new int[] {LEAST, -2, 2, 6, MOST}) {
            due("MOWER " + mower, x.see(mower, 0, 0), NONE);
        }
        due("none yet", x.count(2), 0);
        due("n 0, AT 0", x.see(0, 0, 0), 1);
        due("n 30, AT 9999", x.see(1, 30, 9999), 2);
        for (int i = 3; i <= 6; i++) {
            due("the same again", x.see(0, 0, 0), i);
        }
        due("a seventh", x.see(0, 0, 0), FULL);
        due("a seventh whose n is bad", x.see(0, 31, 0), BAD);
        due("a seventh of nobody", x.see(2, 0, 0), NONE);
        due("six", x.count(2), 6);
        due("none then", x.see(-1, LEAST, MOST), 0);
        due("none", x.count(2), 0);
        due("none again", x.see(-1, 0, 0), 0);
        due("one again", x.see(0, 0, 0), 1);
        due("none of nobody", new NineMowers().see(-1, 0, 0), 0);
        due("nobody", new NineMowers().see(0, 0, 0), NONE);
        x.see(-1, 0, 0);
        for (int i = 0; i < 6; i++) {
            x.see(0, 0, 0);
        }
        due("all six are looked at", x.who(), 3);
        x.see(-1, 0, 0);
        for (int i = 0; i < 5; i++) {
            x.see(0, 0, 0);
        }
        x.see(0, 0, 1);
        due("the sixth too", x.who(), 0);
    }

    private static void who() {
        Document.says("WHO: those MOWERS, as bits, such that, were it STOPPED 3 more now, all of SEEN is so.");
        NineMowers x = with("gap 0", STEADY, 0, STEADY, 0, STEADY, 0, STEADY, 0, STEADY, 0, STEADY, 0);
        due("nothing SEEN: all", x.who(), 63);
        due("nobody", new NineMowers().who(), 0);
        x.see(5, 3, 0);
        due("the last one stayed for 3", x.who(), 63);
        x.see(5, 4, 6);
        due("and went on then", x.who(), 63);
        x.see(0, 3, 18);
        due("the first one went on", x.who(), 62);
        x.see(4, 1, 6);
        due("the fifth one too", x.who(), 32);
        x.see(5, 0, 0);
        due("now", x.who(), 32);
        x.see(5, 5, 13);
        due("one thing is otherwise", x.who(), 0);
        x.see(-1, 0, 0);
        x.see(5, 2, 12);
        due("nobody of six could", x.who(), 0);
        NineMowers more = with("", STEADY, 0);
        more.set(0, 3, 2);
        more.see(0, 5, 0);
        more.see(0, 6, 6);
        due("3 more than 2", more.who(), 1);
        more.pause(1);
        due("now is 1 later", more.who(), 0);
        more.see(-1, 0, 0);
        more.see(0, 30, 60 + 16 * 3);
        due("n 30", more.who(), 1);
        NineMowers end = with("", STEADY, 0);
        end.set(0, 0, 9999);
        end.see(0, 30, 9999);
        due("AT 9999", end.who(), 1);
    }

    private static void plan() {
        Document.says("A PLAN told by hand: what is done MINUTE by MINUTE (0 all mow, 1 WHETTING, 2 a PAUSE of 1; "
            + "10 at most): PLANNED: all AT, together, behind it.");
        NineMowers x = with("slow 6 e<10|t>0", STEADY, 0, STEADY, 0);
        x.set(0, 0, 50);
        x.set(0, 2, 11);
        x.set(1, 3, 99);
        due("an empty one", x.planned(), 50);
        for (int what : new int[] {LEAST, -2, 3, MOST}) {
            due("what " + what, x.plan(what), NONE);
        }
        due("a PAUSE takes 3 off TIRED", x.plan(2), 1);
        due("then all mow", x.plan(0), 2);
        due("so one goes on", x.planned(), 56);
        due("WHETTING", x.plan(1), 3);
        due("all mow again", x.plan(0), 4);
        due("sharp again", x.planned(), 62);
        x.set(0, 3, 2);
        due("STOPPED for one more behind a PAUSE of 1", x.planned(), 56);
        x.set(0, 3, 1);
        due("STOPPED for none", x.planned(), 62);
        x.set(0, 3, 0);
        for (int i = 5; i <= 10; i++) {
            due("more", x.plan(1), i);
        }
        due("an eleventh", x.plan(0), FULL);
        due("an eleventh that is none", x.plan(3), NONE);
        due("ten", x.count(3), 10);
        due("none behind the tenth", x.planned(), 62);
        due("empty then", x.plan(-1), 0);
        due("empty", x.planned(), 50);
        due("empty again", x.plan(-1), 0);
        for (int i = 1; i <= 9; i++) {
            due("nine times WHETTING", x.plan(1), i);
        }
        due("the tenth", x.plan(0), 10);
        due("the tenth counts", x.planned(), 56);
        due("nobody", new NineMowers().planned(), 0);
    }

    private static void book() {
        Document.says("A BOOK told by hand: MOWERS (8 at most): LOOKED at: the first that would not be HELD in the next MINUTE "
            + "(-5: none).");
        NineMowers x = with("", STEADY, 0, STEADY, 0, STEADY, 0);
        due("an empty one", x.looked(), NOBODY);
        for (int mower : new int[] {LEAST, -2, 3, 6, MOST}) {
            due("MOWER " + mower, x.book(mower), NONE);
        }
        for (int i = 1; i <= 7; i++) {
            due("HELD ones", x.book(1 + i % 2), i);
        }
        due("all are HELD", x.looked(), NOBODY);
        due("the eighth", x.book(0), 8);
        due("the eighth is not", x.looked(), 0);
        due("a ninth", x.book(0), FULL);
        due("a ninth that is nobody", x.book(3), NONE);
        due("eight", x.count(4), 8);
        x.set(1, 3, 1);
        due("STOPPED is not HELD", x.looked(), 1);
        x.set(2, 3, 1);
        due("the first of both", x.looked(), 2);
        due("empty then", x.book(-1), 0);
        due("empty", x.looked(), NOBODY);
        due("nobody's", new NineMowers().book(0), NONE);
        due("nobody's looked", new NineMowers().looked(), NOBODY);
    }

    private static void acts() {
        Document.says("ACTS of a MOWER with x (wrapping): 0 mows, 1 whets, 2 tells; i its number.");
        NineMowers x = with("", HASTY, 9, MOWER, 1, OLD, 2, PRESSED, 3, TOLD, 4);
        due("MAX + 1", x.act(1, 0, MOST), LEAST);
        due("MAX + 1 - 1", x.act(1, 1, MOST), MOST);
        due("MIN + 1 - 1", x.act(1, 1, LEAST), LEAST);
        due("MIN * 2", x.act(1, 2, LEAST), 0);
        due("MAX * 2", x.act(1, 2, MOST), -2);
        due("2^30 * 2", x.act(1, 2, 1 << 30), LEAST);
        due("MAX * 3", x.act(0, 0, MOST), MOST - 2);
        due("MIN * 3", x.act(0, 0, LEAST), LEAST);
        due("MIN * 3 - 9", x.act(0, 1, LEAST), MOST - 8);
        due("- MIN", x.act(2, 0, LEAST - 2), LEAST);
        due("- MAX", x.act(2, 0, MOST - 2), LEAST + 1);
        due("MAX + 1, and 2 more", x.act(2, 1, MOST), (MOST - 1 - 2) ^ 6);
        due("MIN - 3", x.act(3, 2, LEAST), ((MOST - 2) * 3 + 3 - 3) * 2);
        due("MAX + 4", x.act(4, 0, MOST), (LEAST + 3) ^ 4);
        due("MAX + 4 ^ 4, less 4, and 6 more", x.act(4, 1, MOST), ((LEAST + 3) ^ 4) - 4 + 6);
        for (int act : new int[] {LEAST, -1, 3, MOST}) {
            due("act " + act, x.act(1, act, 5), 0);
            due("no TRACE then", x.count(6), 0);
        }
        for (int mower : new int[] {LEAST, -1, 5, 6, MOST}) {
            x.act(1, 0, 5);
            due("MOWER " + mower, x.act(mower, 0, 5), 0);
            due("no TRACE then", x.trace(0), NONE);
        }
        x.place(4, 0);
        due("the number, not the place", x.act(1, 0, 5), 6);
    }

    private static void bodies() {
        int v = 9;
        int x = -7;
        Document.says("BODIES: MOWER: 10 mows: x + i. 11 whets: mows(x) - v. 12 tells: whets(x) * 2.");
        acts(MOWER, v, x, x + 1, x + 1 - v, (x + 1 - v) * 2);
        Document.says("STEADY: 20 whets: super.whets(x) ^ 6.");
        acts(STEADY, v, x, x + 1, (x + 1 - v) ^ 6, ((x + 1 - v) ^ 6) * 2);
        Document.says("HASTY: 30 mows: super.mows(x * 3).");
        acts(HASTY, v, x, 3 * x + 1, 3 * x + 1 - v, (3 * x + 1 - v) * 2);
        Document.says("BOY: 40 tells: super.tells(x) + whets(1).");
        acts(BOY, v, x, x + 1, x + 1 - v, (x + 1 - v) * 2 + (2 - v));
        Document.says("OLD: 50 mows: -super.mows(x). 51 whets: super.whets(x + 1).");
        acts(OLD, v, x, -x - 1, (-x - 2 - v) ^ 6, ((-x - 2 - v) ^ 6) * 2);
        Document.says("PRESSED: 60 tells: super.tells(x - i).");
        acts(PRESSED, v, x, 3 * x + 1, 3 * x + 1 - v, (3 * (x - 1) + 1 - v) * 2);
        Document.says("TOLD: 70 whets: super.whets(x) + super.mows(2). 71 mows: super.mows(x) ^ v.");
        int whets = ((x + 1) ^ v) - v + 3;
        acts(TOLD, v, x, (x + 1) ^ v, whets, whets * 2 + ((2 ^ v) - v + 3));
        Document.says("mows(..) and so on: the body of its KIND, or, if that has none, of the next KIND above that has one; "
            + "super.mows(..): so from the KIND above the body's on; all that stands in a body is done from the left on.");
        traces(MOWER, 0, 10);
        traces(MOWER, 1, 11, 10);
        traces(MOWER, 2, 12, 11, 10);
        traces(STEADY, 0, 10);
        traces(STEADY, 1, 20, 11, 10);
        traces(STEADY, 2, 12, 20, 11, 10);
        traces(HASTY, 0, 30, 10);
        traces(HASTY, 1, 11, 30, 10);
        traces(HASTY, 2, 12, 11, 30, 10);
        traces(BOY, 0, 10);
        traces(BOY, 1, 11, 10);
        traces(BOY, 2, 40, 12, 11, 10, 11, 10);
        traces(OLD, 0, 50, 10);
        traces(OLD, 1, 51, 20, 11, 50, 10);
        traces(OLD, 2, 12, 51, 20, 11, 50, 10);
        traces(PRESSED, 0, 30, 10);
        traces(PRESSED, 1, 11, 30, 10);
        traces(PRESSED, 2, 60, 12, 11, 30, 10);
        traces(TOLD, 0, 71, 10);
        traces(TOLD, 1, 70, 11, 71, 10, 10);
        traces(TOLD, 2, 40, 12, 70, 11, 71, 10, 10, 70, 11, 71, 10, 10);
    }

    /** What the second of two answers, whose number is 1. */
    private static void acts(int kind, int v, int x, int... want) {
        NineMowers two = with("", MOWER, 0, kind, v);
        for (int act = 0; act < 3; act++) {
            due("act " + act + " of KIND " + kind, two.act(1, act, x), want[act]);
        }
    }

    private static void traces(int kind, int act, int... bodies) {
        NineMowers x = with("", kind, 3);
        x.act(0, act, 5);
        due("bodies", x.count(6), bodies.length);
        for (int i = 0; i < bodies.length; i++) {
            due("body " + i + " of act " + act + " of KIND " + kind, x.trace(i), bodies[i]);
        }
        due("no more", x.trace(bodies.length), NONE);
    }

    private static void trace() {
        Document.says("THE TRACE: the numbers of the bodies that ran in the latest act(), as they began; "
            + "the first 20 are kept.");
        NineMowers x = with("", TOLD, 3, MOWER, 0);
        due("none yet", x.trace(0), NONE);
        due("none ran yet", x.count(6), 0);
        x.act(0, 2, 1);
        due("the longest one", x.count(6), 12);
        due("its last", x.trace(11), 10);
        for (int i : new int[] {LEAST, -1, 12, 19, 20, MOST}) {
            due("no body " + i, x.trace(i), NONE);
        }
        x.minute();
        x.image();
        x.undo();
        due("still the latest", x.trace(0), 40);
        x.act(1, 0, 1);
        due("the latest", x.trace(0), 10);
        due("one ran", x.count(6), 1);
        due("no more of the one before", x.trace(1), NONE);
    }

    private static void image() {
        Document.says("THE IMAGE: MOWERS with all that is theirs, THE ROW, MINUTE, SEEN, the PLAN, the BOOK, "
            + "which FIELD holds.");
        NineMowers x = with("gap 5", TOLD, 3, OLD, 9);
        x.place(1, 0);
        x.row(0, 2, 7);
        x.pause(3);
        int[][] own = {{11, 4, 33, 2}, {22, 0, 44, 0}};
        for (int m = 0; m < 2; m++) {
            for (int what = 0; what < 4; what++) {
                x.set(m, what, own[m][what]);
            }
        }
        x.see(0, 2, 11);
        x.plan(1);
        x.plan(0);
        x.book(0);
        due("taken", x.image(), 2);
        int who = x.who();
        int planned = x.planned();
        int looked = x.looked();
        String before = Due.shown(x);
        x.mower(HASTY, 1);
        due("MOWERS", x.undo(), 2);
        same(x, before);
        for (int m = 0; m < 2; m++) {
            for (int what = 0; what < 4; what++) {
                x.set(m, what, 9);
                x.undo();
                due("what " + what, x.of(m, what + 2), own[m][what]);
            }
        }
        x.row(0, 2, 1);
        x.row(0, 3, 1);
        x.undo();
        due("ROW", x.row(0, 2, 7), 7);
        due("ROW at first", x.row(0, 3, 0), 0);
        x.place(1, 1);
        x.undo();
        due("THE ROW", x.told(10), 1);
        x.minute();
        x.whet();
        x.pause(60);
        x.undo();
        due("MINUTE", x.told(0), 3);
        x.see(1, 0, 0);
        x.undo();
        due("SEEN", x.count(2), 1);
        x.see(-1, 0, 0);
        x.see(0, 2, 12);
        x.undo();
        due("what is SEEN", x.who(), who);
        x.plan(0);
        x.undo();
        due("the PLAN", x.count(3), 2);
        x.plan(-1);
        x.plan(0);
        x.plan(0);
        x.undo();
        due("what is done", x.planned(), planned);
        x.book(0);
        x.undo();
        due("the BOOK", x.count(4), 1);
        x.book(-1);
        x.book(1);
        x.undo();
        due("who is in it", x.looked(), looked);
        Due.field(x, "fast 9 m<9;gap 8;tire 8;long 8");
        x.undo();
        due("GAP", x.told(1), 5);
        due("TIRE", x.told(2), 1);
        due("LENGTH", x.told(3), 60);
        due("PACE", x.of(0, 7), 6);
    }

    private static void same(NineMowers x, String before) {
        Document.holds("all as before", before.equals(Due.shown(x)));
    }

    private static void imageLeaves() {
        NineMowers none = new NineMowers();
        due("none yet", none.undo(), STATE);
        due("of nobody", none.image(), 0);
        Due.field(none, "gap 9");
        none.mower(TOLD, 9);
        for (int what = 0; what < 4; what++) {
            none.set(0, what, 5);
        }
        none.row(0, 0, 5);
        none.minute();
        due("nobody then", none.undo(), 0);
        due("nobody", none.of(0, 0), NONE);
        due("no place", none.told(10), NONE);
        due("no FIELD holds", none.told(1), 2);
        due("but there is one", none.count(1), 1);
        due("who comes then", none.mower(TOLD, 9), 0);
        int[] first = {6, 9, 0, 10, 0, 0, 0, 6, 3};
        for (int what = 0; what < first.length; what++) {
            due("is new, what " + what, none.of(0, what), first[what]);
        }
        due("ROW is new", none.row(0, 0, 0), 0);
        Due.feed(none, "gap");
        none.tape(0, 1, 2);
        none.item(0, 1, 7);
        none.act(0, 0, 1);
        none.undo();
        due("THE TEXT is not in it", none.count(5), 3);
        due("TAPES are not in it", none.read(0, 1), 7);
        due("THE TRACE is not in it", none.count(6), 2);
        for (int i = 1; i < 6; i++) {
            Due.field(none, i == 1 ? " 1" : "gap " + i);
        }
        none.undo();
        due("six FIELDS stay", none.count(1), 6);
        due("so there is no seventh", none.field(), FULL);
        due("undo goes back as often as one likes", none.undo(), 0);
        none.mower(BOY, 1);
        due("a newer one", none.image(), 1);
        none.mower(PRESSED, 1);
        due("the newer one holds", none.undo(), 1);
    }
}
