/** The edges that the terms name of TAPES, of JUDGING, of the host's refusals and of what is answered. */
final class TapeEdges {
    private static final int NONE = -1, BAD = -2, STATE = -3, FULL = -4, NOBODY = -5;
    private static final int NOTHING = -11, CAST = -12, PLACE = -13, SIZE = -14;
    private static final long NO = Long.MIN_VALUE;
    private static final int LEAST = Integer.MIN_VALUE, MOST = Integer.MAX_VALUE;

    private TapeEdges() {
    }

    static void all() {
        tapes();
        judged();
        refusals();
        answers();
        constants();
    }

    private static void due(String call, long got, long want) {
        Document.due(call, got, want);
    }

    private static void tapes() {
        Document.says("TAPES 0 .. 5 hold nothing (at first), or a row of 0 bytes, 1 shorts, 2 ints, 3 longs, "
            + "4 booleans (items 0, 1).");
        NineMowers x = new NineMowers();
        for (int tape = 0; tape <= 5; tape++) {
            due("at first", x.item(tape, 0, 1), NOTHING);
            due("nothing to read", x.read(tape, 0), NO);
        }
        for (int tape : new int[] {LEAST, -1, 6, MOST}) {
            due("TAPE " + tape, x.tape(tape, 0, 1), NONE);
            due("no item", x.item(tape, 0, 1), NONE);
            due("not read", x.read(tape, 0), NO);
            due("not shifted", x.shift(tape, 0, 0, 0, 0), NONE);
            due("none shifted there", x.shift(0, 0, tape, 0, 0), NONE);
            due("not judged", x.judge(tape, 0), NONE);
        }
        for (int sort : new int[] {LEAST, -2, 5, MOST}) {
            due("sort " + sort, x.tape(0, sort, 1), BAD);
        }
        long[] kept = {-1, -1, -1, -1, 1};
        for (int sort = 0; sort <= 4; sort++) {
            due("sort " + sort, x.tape(sort, sort, 1), 1);
            due("all bits", x.item(sort, 0, -1), 1);
            due("kept", x.read(sort, 0), kept[sort]);
        }
        int[] bits = {8, 16, 32};
        for (int sort = 0; sort < 3; sort++) {
            long top = 1L << bits[sort] - 1;
            long[][] items = {{top - 1, top - 1}, {top, -top}, {-top, -top}, {-top - 1, top - 1}, {2 * top, 0},
                {2 * top - 1, -1}, {NO, 0}, {Long.MAX_VALUE, -1}};
            for (long[] one : items) {
                x.item(sort, 0, one[0]);
                due("sort " + sort + ": " + one[0], x.read(sort, 0), one[1]);
            }
        }
        for (long v : new long[] {NO, Long.MAX_VALUE, 1L << 32, -(1L << 32)}) {
            x.item(3, 0, v);
            due("long " + v, x.read(3, 0), v);
            x.item(4, 0, v);
            due("boolean " + v, x.read(4, 0), 1);
        }
        x.item(4, 0, 0);
        due("boolean 0", x.read(4, 0), 0);
        due("another sort", x.tape(3, 0, 2), 1);
        due("all 0 then", x.read(3, 0), 0);
    }

    private static void judged() {
        Document.says("AT told by a row of shorts, from a place on, MOWER by MOWER, is JUDGED: the first that is otherwise; "
            + "-5: none, or there is none to look at; 100 and how many were looked at, if the row ends ahead of that "
            + "(or the place is below 0, or the TAPE holds nothing).");
        NineMowers x = Due.with("", 0, 0, 0, 0, 0, 0, 0, 0, 0, 0, 0, 0);
        x.place(5, 0);
        due("holds nothing", x.judge(0, 0), 100);
        due("holds nothing, below 0", x.judge(0, -1), 100);
        x.tape(0, 1, 0);
        due("a row of 0", x.judge(0, 0), 100);
        x.tape(0, 1, 60);
        for (int m = 0; m < 6; m++) {
            x.set(m, 0, 9994 + m);
        }
        for (int m = 0; m < 6; m++) {
            due("otherwise from " + m + " on", x.judge(0, 54), m);
            x.item(0, 54 + m, 9994 + m);
        }
        due("none is otherwise, up to the end", x.judge(0, 54), NOBODY);
        x.item(0, 57, 1);
        x.item(0, 56, 1);
        due("the first that is otherwise", x.judge(0, 54), 2);
        x.item(0, 53, 9994);
        x.item(0, 54, 9995);
        x.item(0, 55, 9996);
        x.item(0, 56, 9997);
        x.item(0, 57, 9998);
        x.item(0, 58, 9999);
        due("none is otherwise, behind them there is more", x.judge(0, 53), NOBODY);
        due("the row ends with 1 looked at, but that is otherwise", x.judge(0, 59), 0);
        x.item(0, 59, 9994);
        due("the row ends with 1 looked at", x.judge(0, 59), 101);
        x.item(0, 58, 9994);
        x.item(0, 59, 9995);
        due("the row ends with 2 looked at", x.judge(0, 58), 102);
        for (int m = 0; m < 5; m++) {
            x.item(0, 55 + m, 9994 + m);
        }
        due("the row ends with 5 looked at", x.judge(0, 55), 105);
        for (int i : new int[] {60, 61, MOST - 5, MOST, -1, -6, LEAST}) {
            due("from " + i + " on", x.judge(0, i), 100);
        }
        x.set(0, 0, 6);
        x.item(0, 0, 65536 + 6);
        due("a short's lowest bits", x.judge(0, 0), 1);
        x.item(0, 0, -6);
        due("-6 is not 6", x.judge(0, 0), 0);
        NineMowers nobody = new NineMowers();
        due("nobody, nothing", nobody.judge(0, 0), NOBODY);
        nobody.tape(0, 1, 1);
        due("nobody, a row", nobody.judge(0, 0), NOBODY);
        due("nobody, behind the row", nobody.judge(0, 1), NOBODY);
        due("nobody, below 0", nobody.judge(0, -1), NOBODY);
    }

    private static void refusals() {
        Document.says("The host's refusals: NOTHING (-11): nothing is there; CAST (-12): another sort or KIND; "
            + "PLACE (-13): no such place; SIZE (-14): a size below 0.");
        NineMowers x = Due.with("", 1, 0);
        x.tape(0, 0, 2);
        x.tape(1, 1, 2);
        x.tape(2, 0, 0);
        due("no MOWER", x.taken(1, 0), -11);
        due("no row", x.item(3, 0, 0), -11);
        due("no row to shift", x.shift(3, 0, 0, 0, 0), -11);
        due("no row to shift to", x.shift(0, 0, 3, 0, 0), -11);
        due("another KIND", x.taken(0, 4), -12);
        due("another sort", x.shift(0, 0, 1, 0, 0), -12);
        due("no shorts", x.judge(0, 0), -12);
        due("no item 2", x.item(0, 2, 0), -13);
        due("no item 0", x.item(2, 0, 0), -13);
        due("no place 3", x.shift(0, 3, 0, 0, 0), -13);
        due("size -1", x.tape(0, 0, -1), -14);
        due("size below", x.tape(0, 0, LEAST), -14);
    }

    private static void answers() {
        Document.says("Answers: NONE (-1) no such number; BAD (-2) a number is not as told; STATE (-3) as told; FULL (-4);");
        NineMowers x = Due.with("", 0, 0);
        due("NONE", x.mower(7, 0), -1);
        due("BAD", x.mower(0, 10), -2);
        due("STATE", x.undo(), -3);
        for (int i = 0; i < 100; i++) {
            x.feed(0);
        }
        due("FULL", x.feed(0), -4);
        Document.says("the first that a call's words name.");
        due("kind ahead of v", x.mower(7, 10), NONE);
        due("mower ahead of n", x.set(1, 0, -1), NONE);
        due("what ahead of n", x.set(0, 4, -1), NONE);
        due("mower ahead of all", x.row(1, 4, 10), NONE);
        due("part ahead of n and KIND", x.row(0, 4, 10), NONE);
        due("n ahead of KIND", x.row(0, 0, 10), BAD);
        due("sign ahead of FULL", x.feed(128), BAD);
        due("what ahead of n", x.on(61, 11), NONE);
        due("k ahead of n", x.order(13, 5), NONE);
        due("what ahead of n", x.whets(61, 2), NONE);
        due("what ahead of n", x.apart(61, 2), NONE);
        due("mower ahead of r", x.stop(1, 21, 1, 0), -100001);
        due("what ahead of n", x.stop(0, 1, 61, 2), -100001);
        due("what ahead of n", x.rest(61, 2), NONE);
        due("what ahead of n", x.paused(31, 2), NONE);
        due("mower ahead of n", x.see(1, 31, 0), NONE);
        due("none ahead of all", x.see(-1, 31, 10000), 0);
        due("tape ahead of sort", x.tape(6, 5, 61), NONE);
        due("sort ahead of SIZE", x.tape(0, 5, -1), BAD);
        due("k ahead of the MOWER", x.taken(1, 7), BAD);
        due("tape ahead of place", x.item(6, -1, 0), NONE);
        due("nothing ahead of place", x.item(0, -1, 0), NOTHING);
        x.tape(1, 1, 1);
        x.tape(2, 2, 1);
        due("tapes ahead of nothing", x.shift(0, 0, 6, 0, 1), NONE);
        due("nothing ahead of sort and place", x.shift(0, -1, 1, 0, 1), NOTHING);
        due("sort ahead of place", x.shift(1, -1, 2, 0, 1), CAST);
        due("place", x.shift(1, -1, 1, 0, 1), PLACE);
        due("place of no shorts", x.judge(2, -1), CAST);
        NineMowers late = Due.atMinute(9999, "");
        due("n ahead of MINUTE", late.pause(61), BAD);
        due("MINUTE", late.pause(60), STATE);
        for (int m = 0; m < 6; m++) {
            late.mower(0, 0);
        }
        due("kind ahead of FULL", late.mower(7, 0), NONE);
        due("v ahead of FULL", late.mower(0, 10), BAD);
        due("n ahead of -9", late.order(13, 0), BAD);
        due("k ahead of -9", late.order(1, 5), NONE);
        due("SIZE", late.tape(0, 0, -1), SIZE);
        due("FULL", late.mower(0, 0), FULL);
        Document.says("What is answered so changes nothing; what is asked changes nothing.");
        RefusedEdges.all();
    }

    private static void constants() {
        Document.says("The constants: `NO = Long.MIN_VALUE`: There is no such number.");
        due("NO", NineMowers.NO, Long.MIN_VALUE);
        due("NONE", NineMowers.NONE, -1);
        due("BAD", NineMowers.BAD, -2);
        due("STATE", NineMowers.STATE, -3);
        due("FULL", NineMowers.FULL, -4);
        due("no such number", new NineMowers().mean(1, 0), NineMowers.NO);
    }
}
