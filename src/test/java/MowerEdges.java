/** The edges that the terms name of mowers, their numbers and THE ROW. */
final class MowerEdges {
    private static final int NONE = -1, BAD = -2, FULL = -4;
    private static final int LEAST = Integer.MIN_VALUE, MOST = Integer.MAX_VALUE;

    private MowerEdges() {
    }

    static void all() {
        numbers();
        kinds();
        values();
        line();
    }

    private static void due(String call, long got, long want) {
        Document.due(call, got, want);
    }

    private static void numbers() {
        Document.says("MOWERS 0 .. 5, as they come,");
        NineMowers x = new NineMowers();
        due("nobody", x.of(0, 0), NONE);
        for (int m = 0; m <= 5; m++) {
            due("comes", x.mower(6 - m, m), m);
            due("KIND", x.of(m, 0), 6 - m);
            due("v", x.of(m, 1), m);
            due("the next one is not there yet", x.of(m + 1, 0), NONE);
        }
        due("a seventh", x.mower(0, 0), FULL);
        due("a seventh is not there", x.of(6, 0), NONE);
        due("nor in THE ROW", x.told(16), NONE);
        due("still six", x.count(0), 6);
    }

    private static void kinds() {
        Document.says("are of KINDS: 0 MOWER; 1 STEADY, 2 HASTY, 3 BOY under MOWER; 4 OLD under STEADY; "
            + "5 PRESSED under HASTY; 6 TOLD under BOY;");
        String[] under = {"0", "01", "02", "03", "014", "025", "036"};
        for (int kind = 0; kind <= 6; kind++) {
            NineMowers x = Due.with("", kind, 0);
            due("KIND", x.of(0, 0), kind);
            for (int k = 0; k <= 6; k++) {
                due(kind + " taken for " + k, x.taken(0, k), under[kind].indexOf('0' + k) >= 0 ? kind : -12);
            }
        }
        for (int kind : new int[] {LEAST, -2, -1, 7, 8, MOST}) {
            due("kind " + kind, new NineMowers().mower(kind, 0), NONE);
        }
    }

    private static void values() {
        Document.says("with a number v (0 .. 9),");
        for (int kind = 0; kind <= 6; kind++) {
            NineMowers x = new NineMowers();
            for (int v : new int[] {LEAST, -1, 10, MOST}) {
                due("v " + v, x.mower(kind, v), BAD);
            }
            due("nobody came", x.count(0), 0);
            due("v 0", x.mower(kind, 0), 0);
            due("v 9", x.mower(kind, 9), 1);
            due("v is 0", x.of(0, 1), 0);
            due("v is 9", x.of(1, 1), 9);
        }
        Document.says("AT (how far one is: 0 at first; 9999 at most),");
        value(0, 0, 9999);
        NineMowers x = Due.with("", 1, 0);
        x.set(0, 0, 9998);
        due("goes on by 1, not by 6", x.minute(), 1);
        due("9999 at most", x.of(0, 2), 9999);
        due("9999 at most when asked", x.on(60, 10), 9999);
        Document.says("EDGE (0 .. 10; 10 at first),");
        value(1, 10, 10);
        Document.says("TIRED (0 .. 99; 0 at first),");
        value(2, 0, 99);
        Document.says("STOPPED (for how many MINUTES more: 0 at first).");
        value(3, 0, 99);
        NineMowers still = Due.with("", 1, 0);
        still.set(0, 3, 2);
        due("for 2 MINUTES", still.on(2, 0), 0);
        due("not for 3", still.on(3, 0), 6);
    }

    private static void value(int what, int first, int most) {
        NineMowers x = Due.with("", 0, 0, 1, 9, 2, 9, 3, 9, 5, 9, 6, 9);
        for (int m = 0; m < 6; m++) {
            due("at first", x.of(m, what + 2), first);
        }
        due("above", x.set(5, what, most + 1), BAD);
        due("far above", x.set(5, what, MOST), BAD);
        due("below", x.set(5, what, -1), BAD);
        due("far below", x.set(5, what, LEAST), BAD);
        due("as it was", x.of(5, what + 2), first);
        due("most", x.set(5, what, most), first);
        due("most then", x.of(5, what + 2), most);
        due("least", x.set(5, what, 0), most);
        due("least then", x.of(5, what + 2), 0);
        due("another's", x.of(4, what + 2), first);
    }

    private static void line() {
        Document.says("THE ROW: their order, the first one ahead (a new one comes last).");
        NineMowers x = Due.with("", 1, 0, 1, 0);
        due("the first one is ahead, so the second is HELD", x.minute(), 2);
        x.place(1, 0);
        due("a new one", x.mower(1, 0), 2);
        int[] line = {1, 0, 2, NONE};
        for (int k = 0; k < 4; k++) {
            due("THE ROW", x.told(10 + k), line[k]);
        }
        due("the new one's place", x.of(2, 6), 2);
        x.image();
        x.mower(0, 0);
        x.place(3, 0);
        x.undo();
        due("new again", x.mower(0, 0), 3);
        due("comes last again", x.told(13), 3);
        due("the first stays first", x.told(10), 1);
        Document.says("MINUTE: 0 at first.");
        due("MINUTE", new NineMowers().told(0), 0);
        due("and with mowers", Due.with("gap 1", 0, 0).told(0), 0);
    }
}
