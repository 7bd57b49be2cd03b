/** The edges that the promises name, in their order. */
final class PromiseEdges {
    private static final int NONE = -1, BAD = -2, STATE = -3, FULL = -4, NOBODY = -5;
    private static final int NOTHING = -11, CAST = -12, PLACE = -13, SIZE = -14, FAR_NONE = -100001, FAR_BAD = -100002;
    private static final long NO = Long.MIN_VALUE;
    private static final int MOWER = 0, STEADY = 1, HASTY = 2, BOY = 3, OLD = 4, PRESSED = 5, TOLD = 6;
    private static final int LEAST = Integer.MIN_VALUE, MOST = Integer.MAX_VALUE;
    /** Numbers that are no number of anything told from 0 to 5. */
    private static final int[] NO_SIXTH = {LEAST, -2, -1, 6, 7, MOST};

    private PromiseEdges() {
    }

    static void all() {
        mowers();
        setting();
        places();
        texts();
        told();
        minutes();
        onAndDone();
        orders();
        stops();
        rests();
        seen();
        odds();
        plans();
        books();
        judge();
        images();
        acts();
        taken();
        count();
        tape();
        item();
        read();
        shift();
        shiftPlaces();
    }

    private static void says(int promise, String words) {
        Document.promises(promise, words);
    }

    private static void due(String call, long got, long want) {
        Document.due(call, got, want);
    }

    private static NineMowers with(String text, int... kindsAndVs) {
        return Due.with(text, kindsAndVs);
    }

    private static NineMowers six() {
        return with("gap 0", STEADY, 0, STEADY, 0, STEADY, 0, STEADY, 0, STEADY, 0, STEADY, 0);
    }

    private static void mowers() {
        says(1, "Nobody, no FIELD.");
        NineMowers x = new NineMowers();
        for (int what = 0; what <= 6; what++) {
            due("count " + what, x.count(what), 0);
        }
        due("GAP without", x.told(1), 2);
        due("TIRE without", x.told(2), 1);
        due("LENGTH without", x.told(3), 60);
        due("no first in THE ROW", x.told(10), NONE);
        says(2, "A MOWER: its number.");
        for (int m = 0; m < 6; m++) {
            due("mower", x.mower(m, m), m);
        }
        says(2, "NONE: kind; BAD: v; FULL: 6.");
        due("NONE: 7", x.mower(7, 0), NONE);
        due("NONE: -1", x.mower(-1, 0), NONE);
        due("BAD: 10", x.mower(6, 10), BAD);
        due("BAD: -1", x.mower(6, -1), BAD);
        due("FULL", x.mower(6, 9), FULL);
        due("6", x.count(0), 6);
        says(3, "Of a MOWER what 0 KIND, 1 v, 2 AT, 3 EDGE, 4 TIRED, 5 STOPPED, 6 its place in THE ROW, 7 PACE, 8 STRIDE now.");
        NineMowers of = with("fast 1 m=1", HASTY, 1, HASTY, 4);
        of.place(1, 0);
        of.set(1, 0, 21);
        of.set(1, 1, 6);
        of.set(1, 2, 43);
        of.set(1, 3, 9);
        int[] all = {2, 4, 21, 6, 43, 9, 0, 7, 7 - 2 + 4};
        for (int what = 0; what <= 8; what++) {
            due("what " + what, of.of(1, what), all[what]);
        }
        of.set(1, 1, 0);
        due("STRIDE, EDGE 0", of.of(1, 8), 2);
        due("PACE, EDGE 0", of.of(1, 7), 7);
        says(3, "NONE.");
        for (int what : new int[] {LEAST, -1, 9, MOST}) {
            due("what " + what, of.of(0, what), NONE);
        }
        for (int m : new int[] {LEAST, -1, 2, 6, MOST}) {
            for (int what = -1; what <= 9; what++) {
                due("MOWER " + m, of.of(m, what), NONE);
            }
        }
    }

    private static void setting() {
        says(4, "Of a MOWER what 0 AT (0 .. 9999), 1 EDGE, 2 TIRED, 3 STOPPED (0 .. 99) becomes n: what it was.");
        NineMowers x = six();
        int[] most = {9999, 10, 99, 99};
        for (int what = 0; what < 4; what++) {
            int was = x.of(5, what + 2);
            for (int n : new int[] {most[what], 0, 1, most[what] - 1, most[what] - 1}) {
                due("what " + what + " becomes " + n, x.set(5, what, n), was);
                due("it is", x.of(5, what + 2), n);
                was = n;
            }
        }
        due("another's stays", x.of(4, 2), 0);
        says(4, "NONE; BAD.");
        for (int m : NO_SIXTH) {
            due("MOWER " + m, x.set(m, 0, 0), NONE);
        }
        for (int what : new int[] {LEAST, -1, 4, MOST}) {
            due("what " + what, x.set(0, what, 0), NONE);
        }
        for (int what = 0; what < 4; what++) {
            for (int n : new int[] {LEAST, -1, most[what] + 1, MOST}) {
                due("what " + what + " to " + n, x.set(0, what, n), BAD);
            }
        }
        says(5, "The ROW of four of a TOLD one becomes n (0 .. 9) for MINUTES modulo 4 being part: what it was.");
        NineMowers told = with("", TOLD, 0, BOY, 0, TOLD, 0);
        for (int part = 0; part < 4; part++) {
            due("part " + part, told.row(2, part, 9), 0);
            due("0", told.row(2, part, 0), 9);
            due("its own", told.row(2, part, part + 1), 0);
            due("another's", told.row(0, part, 0), 0);
        }
        for (int minute = 0; minute < 8; minute++) {
            due("MINUTE " + minute, told.of(2, 8), 3 + minute % 4 + 1);
            due("another's STRIDE", told.of(0, 8), 3);
            told.pause(1);
        }
        NineMowers six = with("", TOLD, 0, TOLD, 0, TOLD, 0, TOLD, 0, TOLD, 0, TOLD, 0);
        for (int i = 0; i < 24; i++) {
            due("six ROWS of four", six.row(i / 4, i % 4, i % 7 + 1), 0);
        }
        for (int i = 0; i < 24; i++) {
            due("each its own", six.row(i / 4, i % 4, 0), i % 7 + 1);
        }
        says(5, "NONE: mower, part; BAD; STATE: another KIND.");
        for (int m : new int[] {LEAST, -1, 3, MOST}) {
            due("MOWER " + m, told.row(m, 0, 0), NONE);
        }
        for (int part : new int[] {LEAST, -1, 4, MOST}) {
            due("part " + part, told.row(0, part, 0), NONE);
        }
        for (int n : new int[] {LEAST, -1, 10, MOST}) {
            due("n " + n, told.row(0, 0, n), BAD);
        }
        due("a BOY", told.row(1, 0, 0), STATE);
        for (int kind = 0; kind < 6; kind++) {
            due("KIND " + kind, with("", kind, 0).row(0, 3, 9), STATE);
        }
    }

    private static void places() {
        says(6, "A MOWER has place k of THE ROW then, the others following each other as they did: its place before.");
        NineMowers x = six();
        int[][] moves = {{0, 5, 0, 1, 2, 3, 4, 5, 0}, {0, 0, 5, 0, 1, 2, 3, 4, 5}, {5, 0, 5, 5, 0, 1, 2, 3, 4},
            {5, 0, 0, 5, 0, 1, 2, 3, 4}, {1, 3, 2, 5, 0, 2, 1, 3, 4}, {4, 1, 5, 5, 4, 0, 2, 1, 3},
            {3, 5, 5, 5, 4, 0, 2, 1, 3}, {2, 4, 3, 5, 4, 0, 1, 2, 3}};
        for (int[] move : moves) {
            due("place(" + move[0] + ", " + move[1] + ")", x.place(move[0], move[1]), move[2]);
            for (int k = 0; k < 6; k++) {
                due("place " + k, x.told(10 + k), move[3 + k]);
                due("place of " + move[3 + k], x.of(move[3 + k], 6), k);
            }
        }
        NineMowers one = with("", BOY, 0);
        due("one alone", one.place(0, 0), 0);
        says(6, "NONE: mower, k.");
        for (int none : NO_SIXTH) {
            due("MOWER " + none, x.place(none, 0), NONE);
            due("k " + none, x.place(0, none), NONE);
        }
        due("k is no place yet", one.place(0, 1), NONE);
        due("nobody", new NineMowers().place(0, 0), NONE);
    }

    private static void texts() {
        says(7, "A sign (0 .. 127) comes behind THE TEXT's: how many it has.");
        NineMowers x = new NineMowers();
        due("0", x.feed(0), 1);
        due("127", x.feed(127), 2);
        for (int i = 3; i <= 100; i++) {
            due("more", x.feed(i), i);
        }
        says(7, "BAD; FULL.");
        for (int sign : new int[] {LEAST, -128, -1, 128, 255, 256 + 'g', MOST}) {
            due("sign " + sign, x.feed(sign), BAD);
            due("sign " + sign + " at first", new NineMowers().feed(sign), BAD);
        }
        due("FULL", x.feed('g'), FULL);
        says(8, "THE TEXT, which is empty then, is a FIELD, and holds: its number.");
        NineMowers fields = new NineMowers();
        for (int i = 0; i < 6; i++) {
            due("field", Due.field(fields, "long 1" + i), i);
            due("empty", fields.count(5), 0);
            due("holds", fields.told(3), 10 + i);
            due("count", fields.count(1), i + 1);
        }
        says(8, "FULL: there are 6 (THE TEXT stays);");
        due("FULL, without a text", fields.field(), FULL);
        Due.feed(fields, "long 77");
        due("FULL", fields.field(), FULL);
        due("THE TEXT stays", fields.count(5), 7);
        Due.feed(fields, ";;");
        due("FULL, though it is none", fields.field(), FULL);
        due("and goes on", fields.count(5), 9);
        due("the sixth holds", fields.told(3), 15);
        says(8, "-10 less the FAULT (the one that held holds).");
        NineMowers faulty = with("long 7");
        due("at 0", faulty.field(), -10);
        due("at 5", Due.field(faulty, "long x"), -15);
        due("THE TEXT is empty then", faulty.count(5), 0);
        due("at the end", Due.field(faulty, "long 9;"), -17);
        due("the one that held holds", faulty.told(3), 7);
        due("no number is lost", Due.field(faulty, "long 8"), 1);
        due("begins well", Due.field(faulty, "gap 9;tire 9;long 9;fast 9 m=0&k=0;slow 7 !e<3;x"), -57);
        due("of that one nothing is left", Due.field(faulty, "fast 1 m=0"), 2);
        faulty.mower(MOWER, 0);
        int[] without = {0, 2, 1, 60};
        for (int what = 0; what < 4; what++) {
            due("what " + what + " is as without", faulty.told(what), without[what]);
        }
        due("PACE by the one that holds", faulty.of(0, 7), 7);
        due("ten CLAUSES, but one ; too many", Due.field(faulty, "gap 9;".repeat(10)), -69);
        due("ten CLAUSES", Due.field(faulty, "gap 9;".repeat(9) + "fast 2 m=0"), 3);
        due("PACE by the tenth", faulty.of(0, 7), 8);
        for (int i = 0; i < 20; i++) {
            due("much that is none", Due.field(faulty, "fast 1 " + "m=1&".repeat(20) + "x"), -97);
        }
        due("and one that is", Due.field(faulty, "fast 3 m=0|m=1"), 4);
        due("its PACE", faulty.of(0, 7), 9);
        due("at 99", Due.field(faulty, "gap 1;".repeat(9) + "fast 1 " + "m=1&".repeat(9) + "m= "), -109);
        due("at 100", Due.field(faulty, "gap 1;".repeat(9) + "fast 1 " + "m=1&".repeat(9) + "m=1"), 5);
    }

    private static void told() {
        says(9, "What 0 MINUTE, 1 GAP, 2 TIRE, 3 LENGTH, 10 and k the k-th of THE ROW.");
        NineMowers x = with("gap 3;tire 4;long 5", STEADY, 0, STEADY, 0, STEADY, 0, STEADY, 0, STEADY, 0, STEADY, 0);
        x.pause(9);
        x.place(5, 0);
        int[] whats = {0, 1, 2, 3, 10, 11, 15};
        int[] are = {9, 3, 4, 5, 5, 0, 4};
        for (int i = 0; i < whats.length; i++) {
            due("what " + whats[i], x.told(whats[i]), are[i]);
        }
        says(9, "NONE.");
        for (int what : new int[] {LEAST, -1, 4, 5, 9, 16, 20, MOST}) {
            due("what " + what, x.told(what), NONE);
        }
        due("the first of nobody", new NineMowers().told(10), NONE);
        due("the second of one", with("", BOY, 0).told(11), NONE);
    }

    private static void minutes() {
        says(10, "A MINUTE goes: who was HELD, as bits.");
        NineMowers x = with("", STEADY, 0, STEADY, 0, STEADY, 0, STEADY, 0, STEADY, 0, STEADY, 0);
        for (int held : new int[] {62, 48, 0}) {
            due("HELD", x.minute(), held);
        }
        due("nobody", new NineMowers().minute(), 0);
        due("one", with("", STEADY, 0).minute(), 0);
        says(10, "STATE: MINUTE is 9999.");
        NineMowers late = Due.atMinute(9998, "", STEADY, 0);
        due("9998", late.minute(), 0);
        due("9999", late.minute(), STATE);
        due("AT is as it was", late.of(0, 2), 6);
        says(11, "WHETTING: MINUTE.");
        NineMowers whet = with("", STEADY, 0);
        due("1", whet.whet(), 1);
        due("2", whet.whet(), 2);
        due("nobody", new NineMowers().whet(), 1);
        says(11, "STATE: MINUTE is 9999.");
        NineMowers dull = Due.atMinute(9998, "", STEADY, 0);
        dull.set(0, 1, 1);
        due("9998", dull.whet(), 9999);
        dull.set(0, 1, 1);
        due("9999", dull.whet(), STATE);
        due("EDGE is as it was", dull.of(0, 3), 1);
        says(12, "A PAUSE of n MINUTES (1 .. 60): MINUTE.");
        NineMowers pause = with("", STEADY, 0);
        due("1", pause.pause(1), 1);
        due("60", pause.pause(60), 61);
        says(12, "BAD; STATE: it would be above 9999.");
        for (int n : new int[] {LEAST, -1, 0, 61, MOST}) {
            due("n " + n, pause.pause(n), BAD);
            due("n " + n + " at 9999", late.pause(n), BAD);
        }
        NineMowers near = Due.atMinute(9939, "", STEADY, 0);
        near.set(0, 2, 99);
        due("9999", near.pause(60), 9999);
        due("10000", near.pause(1), STATE);
        NineMowers over = Due.atMinute(9940, "", STEADY, 0);
        over.set(0, 2, 99);
        due("10000 by 60", over.pause(60), STATE);
        due("TIRED is as it was", over.of(0, 4), 99);
        due("MINUTE is as it was", over.told(0), 9940);
        due("9999 by 59", over.pause(59), 9999);
    }

    private static void onAndDone() {
        says(13, "ON: what 0 all AT, 10 and m AT, 20 and m how many times HELD.");
        NineMowers x = six();
        x.set(0, 3, 1);
        due("all", x.on(2, 0), 36);
        for (int m = 0; m < 6; m++) {
            due("AT", x.on(2, 10 + m), 6);
            due("HELD", x.on(2, 20 + m), m == 0 ? 0 : 1);
        }
        says(13, "NONE; BAD: n.");
        for (int what : new int[] {LEAST, -1, 1, 9, 16, 19, 26, MOST}) {
            due("what " + what, x.on(0, what), NONE);
        }
        due("n 61", x.on(61, 0), BAD);
        due("n -1", x.on(-1, 25), BAD);
        due("n 0", x.on(0, 25), 0);
        due("n 60", x.on(60, 15), 60 + 49 * 3);
        says(14, "DONE; -5 (nobody: 0).");
        due("nobody", new NineMowers().done(), 0);
        due("10", x.done(), 11);
        due("-5", with("slow 6 m=0", STEADY, 0).done(), NOBODY);
    }

    private static void orders() {
        says(15, "ORDER: k -1 how much, else the k-th (-5: there are fewer).");
        NineMowers x = with("", BOY, 0, STEADY, 0);
        due("how much", x.order(1, -1), 9);
        due("the first", x.order(1, 0), 1);
        due("the second", x.order(1, 1), 0);
        for (int k = 2; k <= 4; k++) {
            due("k " + k, x.order(1, k), NOBODY);
            due("k " + k + " of nobody", new NineMowers().order(12, k), NOBODY);
        }
        says(15, "NONE: k (-1 .. 4); BAD: n; then -9.");
        due("k -2", x.order(1, -2), NONE);
        due("k 5", x.order(1, 5), NONE);
        due("n 0", x.order(0, 4), BAD);
        due("n 13", x.order(13, -1), BAD);
        due("six", six().order(12, 4), -9);
        due("six, n 0", six().order(0, 4), BAD);
        due("six, k 5", six().order(12, 5), NONE);
        says(16, "WHETS: what 0 k, 1 how much.");
        due("k", x.whets(1, 0), 2);
        due("how much", x.whets(1, 1), 3 + 1);
        noSuchWhat(16, "NONE; BAD: n.", 60, NineMowers::whets);
        says(17, "APART: what 0 the GAP, 1 how much.");
        due("GAP", six().apart(60, 0), 0);
        due("how much", six().apart(60, 1), 6 * 210);
        noSuchWhat(17, "NONE; BAD: n.", 60, NineMowers::apart);
    }

    private interface Asked {
        int of(NineMowers x, int n, int what);
    }

    private static void noSuchWhat(int promise, String words, int most, Asked asked) {
        says(promise, words);
        NineMowers x = six();
        for (int what : new int[] {LEAST, -1, 2, MOST}) {
            due("what " + what, asked.of(x, 1, what), NONE);
            due("what " + what + ", and n", asked.of(x, 0, what), NONE);
        }
        for (int n : new int[] {LEAST, -1, 0, most + 1, MOST}) {
            due("n " + n, asked.of(x, n, 0), BAD);
            due("n " + n, asked.of(x, n, 1), BAD);
        }
        Document.holds("n 1 is none of these", asked.of(x, 1, 0) != NONE && asked.of(x, 1, 0) != BAD);
        Document.holds("n " + most + " neither", asked.of(x, most, 0) != NONE && asked.of(x, most, 0) != BAD);
    }

    private static void stops() {
        says(18, "STOP (what 0), HITS (1, bits).");
        NineMowers x = six();
        due("STOP", x.stop(4, 1, 1, 0), 12);
        due("HITS", x.stop(4, 1, 1, 1), 32);
        says(18, "-100001: NONE; -100002: BAD: r, n.");
        for (int m : NO_SIXTH) {
            due("MOWER " + m, x.stop(m, 1, 1, 0), FAR_NONE);
        }
        for (int what : new int[] {LEAST, -1, 2, MOST}) {
            due("what " + what, x.stop(0, 1, 1, what), FAR_NONE);
        }
        for (int r : new int[] {LEAST, -1, 0, 21, MOST}) {
            due("r " + r, x.stop(0, r, 1, 1), FAR_BAD);
        }
        for (int n : new int[] {LEAST, -1, 0, 61, MOST}) {
            due("n " + n, x.stop(0, 1, n, 1), FAR_BAD);
        }
        due("r 20, n 60", x.stop(5, 20, 60, 0), 60);
        due("nobody", new NineMowers().stop(0, 1, 1, 0), FAR_NONE);
        says(19, "ALONE.");
        due("alone", with("", STEADY, 0, STEADY, 0).alone(1), -2);
        due("60", with("", STEADY, 0, STEADY, 0).alone(60), -2);
        says(19, "-100002: BAD: n.");
        for (int n : new int[] {LEAST, -1, 0, 61, MOST}) {
            due("n " + n, x.alone(n), FAR_BAD);
            due("n " + n + ", nobody", new NineMowers().alone(n), FAR_BAD);
        }
    }

    private static void rests() {
        says(20, "REST: what 0 who, 1 how much; -5.");
        NineMowers x = with("slow 5 d<5;slow 6 e<10", BOY, 0, STEADY, 0);
        x.set(0, 0, 20);
        due("who", x.rest(6, 0), 1);
        due("how much", x.rest(6, 1), 23 + 6);
        due("nobody", x.rest(5, 0), NOBODY);
        due("nobody, how much", x.rest(5, 1), NOBODY);
        noSuchWhat(20, "NONE; BAD: n.", 60, NineMowers::rest);
        says(21, "PAUSED: what 0 k, 1 how much.");
        NineMowers paused = with("fast 9 d=0", STEADY, 0);
        due("k", paused.paused(2, 0), 1);
        due("how much", paused.paused(2, 1), 21);
        noSuchWhat(21, "NONE; BAD: n.", 30, NineMowers::paused);
    }

    private static void seen() {
        says(22, "What is SEEN comes: how many there are");
        NineMowers x = six();
        for (int i = 1; i <= 6; i++) {
            due("see", x.see(6 - i, 5 * i, 9999), i);
        }
        says(22, "(mower -1: none then, 0, whatever the others are).");
        for (int other : new int[] {LEAST, -1, 31, MOST}) {
            due("none then", x.see(-1, other, other), 0);
            due("none", x.count(2), 0);
            due("one", x.see(0, 0, 0), 1);
        }
        says(22, "NONE; BAD: n, at (0 .. 9999); FULL: 6.");
        for (int m : new int[] {LEAST, -2, 6, MOST}) {
            due("MOWER " + m, x.see(m, 0, 0), NONE);
        }
        for (int n : new int[] {LEAST, -1, 31, MOST}) {
            due("n " + n, x.see(0, n, 0), BAD);
        }
        for (int at : new int[] {LEAST, -1, 10000, MOST}) {
            due("at " + at, x.see(0, 0, at), BAD);
        }
        due("n 30, at 9999", x.see(5, 30, 9999), 2);
        for (int i = 3; i <= 6; i++) {
            due("see", x.see(0, 0, 0), i);
        }
        due("FULL", x.see(0, 0, 0), FULL);
        says(23, "WHO, as bits.");
        due("none could", x.who(), 0);
        x.see(-1, 0, 0);
        due("nothing SEEN", x.who(), 63);
        x.see(5, 1, 0);
        x.see(4, 1, 6);
        due("the sixth", x.who(), 32);
    }

    private static void odds() {
        says(24, "ODDS; part 0 above, 1 below the line.");
        NineMowers x = six();
        due("above", x.odds(4, 1, 0), 2);
        due("below", x.odds(4, 1, 1), 3);
        says(24, "NO.");
        for (int m : NO_SIXTH) {
            due("MOWER " + m, x.odds(m, 1, 0), NO);
        }
        noPart(x, (n, part) -> x.odds(0, n, part));
        due("nobody", new NineMowers().odds(0, 1, 0), NO);
        says(25, "MEAN; part likewise.");
        x.set(0, 0, 9999);
        due("above", x.mean(60, 0), (9999 + 5 * 210) / 3);
        due("below", x.mean(60, 1), 2);
        says(25, "NO.");
        noPart(x, (n, part) -> x.mean(n, part));
        due("nobody", new NineMowers().mean(1, 1), NO);
    }

    private interface Fraction {
        long of(int n, int part);
    }

    private static void noPart(NineMowers x, Fraction fraction) {
        for (int part : new int[] {LEAST, -1, 2, MOST}) {
            due("part " + part, fraction.of(1, part), NO);
        }
        for (int n : new int[] {LEAST, -1, 0, 61, MOST}) {
            due("n " + n + ", above", fraction.of(n, 0), NO);
            due("n " + n + ", below", fraction.of(n, 1), NO);
        }
        Document.holds("n 1", fraction.of(1, 1) >= 1);
        Document.holds("n 60", fraction.of(60, 1) >= 1);
    }

    private static void plans() {
        says(26, "What is done comes to the PLAN: how many there are (-1: it is empty then, 0).");
        NineMowers x = with("", STEADY, 0);
        due("empty at first", x.plan(-1), 0);
        for (int i = 1; i <= 10; i++) {
            due("plan", x.plan((i + 1) % 3), i);
        }
        says(26, "NONE: what (0 .. 2); FULL: 10.");
        for (int what : new int[] {LEAST, -2, 3, MOST}) {
            due("what " + what, x.plan(what), NONE);
        }
        due("FULL", x.plan(2), FULL);
        says(27, "PLANNED.");
        due("2, 0, 1, 2, 0, 1, 2, 0, 1, 2", x.planned(), 18);
        due("empty then", x.plan(-1), 0);
        due("as it is", x.planned(), 0);
        due("and plan again", x.plan(0), 1);
        due("one MINUTE", x.planned(), 6);
    }

    private static void books() {
        says(28, "A MOWER comes to the BOOK: how many there are (-1: it is empty then, 0).");
        NineMowers x = with("", STEADY, 0, STEADY, 0, STEADY, 0, STEADY, 0, STEADY, 0, STEADY, 0);
        due("empty at first", x.book(-1), 0);
        for (int i = 1; i <= 8; i++) {
            due("book", x.book(8 - Math.max(i, 3)), i);
        }
        says(28, "NONE; FULL: 8.");
        for (int m : new int[] {LEAST, -2, 6, MOST}) {
            due("MOWER " + m, x.book(m), NONE);
        }
        due("FULL", x.book(5), FULL);
        says(29, "LOOKED at; -5.");
        due("the last one in it is not HELD", x.looked(), 0);
        due("empty then", x.book(-1), 0);
        due("none", x.looked(), NOBODY);
        due("a HELD one", x.book(5), 1);
        due("-5", x.looked(), NOBODY);
    }

    private static void judge() {
        says(30, "JUDGED from place i of a TAPE on.");
        NineMowers x = with("", STEADY, 0, STEADY, 0);
        x.set(1, 0, 9);
        x.tape(5, 1, 3);
        x.item(5, 2, 9);
        due("from 0 on", x.judge(5, 0), 1);
        due("from 1 on", x.judge(5, 1), NOBODY);
        due("from 2 on", x.judge(5, 2), 0);
        due("from 3 on", x.judge(5, 3), 100);
        due("from -1 on", x.judge(5, -1), 100);
        says(30, "NONE: tape; CAST: it is no row of shorts.");
        for (int tape : NO_SIXTH) {
            due("TAPE " + tape, x.judge(tape, 0), NONE);
        }
        for (int sort : new int[] {0, 2, 3, 4}) {
            x.tape(0, sort, 2);
            due("sort " + sort, x.judge(0, 0), CAST);
            due("sort " + sort + ", nobody", tapeOf(sort).judge(0, 0), CAST);
        }
        x.tape(0, 0, 0);
        due("no bytes", x.judge(0, 0), CAST);
    }

    private static NineMowers tapeOf(int sort) {
        NineMowers x = new NineMowers();
        x.tape(0, sort, 2);
        return x;
    }

    private static void images() {
        says(31, "THE IMAGE is taken: how many MOWERS there are.");
        NineMowers x = new NineMowers();
        for (int m = 0; m <= 6; m++) {
            due("image", x.image(), m);
            x.mower(m % 7, 0);
        }
        says(32, "All is as THE IMAGE: how many MOWERS.");
        due("six", x.undo(), 6);
        NineMowers fewer = with("", STEADY, 0);
        fewer.image();
        fewer.minute();
        fewer.mower(STEADY, 0);
        due("one", fewer.undo(), 1);
        due("AT", fewer.of(0, 2), 0);
        due("MINUTE", fewer.told(0), 0);
        due("again", fewer.undo(), 1);
        says(32, "STATE: there is none.");
        due("none", new NineMowers().undo(), STATE);
        due("none, with mowers", with("gap 1", STEADY, 0).undo(), STATE);
    }

    private static void acts() {
        says(33, "An ACT (0 mows, 1 whets, 2 tells) of a MOWER with x.");
        NineMowers x = with("", BOY, 9, MOWER, 4);
        due("mows", x.act(1, 0, 10), 11);
        due("whets", x.act(1, 1, 10), 7);
        due("tells", x.act(1, 2, 10), 14);
        says(33, "0, and no TRACE then: no such MOWER, act.");
        for (int none : new int[] {LEAST, -1, 3, MOST}) {
            x.act(1, 2, 10);
            due("act " + none, x.act(1, none, 10), 0);
            due("no TRACE", x.trace(0), NONE);
            due("none ran", x.count(6), 0);
            x.act(1, 2, 10);
            due("MOWER " + none, x.act(none, 0, 10), 0);
            due("no TRACE", x.trace(0), NONE);
            due("none ran", x.count(6), 0);
        }
        says(34, "THE TRACE's i-th body.");
        x.act(0, 2, 10);
        int[] bodies = {40, 12, 11, 10, 11, 10};
        for (int i = 0; i < bodies.length; i++) {
            due("i " + i, x.trace(i), bodies[i]);
        }
        says(34, "NONE.");
        for (int i : new int[] {LEAST, -1, 6, 19, 20, 21, MOST}) {
            due("i " + i, x.trace(i), NONE);
        }
        due("none yet", new NineMowers().trace(0), NONE);
    }

    private static void taken() {
        says(35, "A MOWER taken for one of KIND k (0 .. 6), or one under that: its KIND.");
        NineMowers x = with("", OLD, 0, PRESSED, 0, TOLD, 0);
        due("OLD for MOWER", x.taken(0, 0), OLD);
        due("OLD for STEADY", x.taken(0, 1), OLD);
        due("OLD for OLD", x.taken(0, 4), OLD);
        due("PRESSED for HASTY", x.taken(1, 2), PRESSED);
        due("TOLD for BOY", x.taken(2, 3), TOLD);
        due("TOLD for TOLD", x.taken(2, 6), TOLD);
        says(35, "BAD: k; NOTHING: no such MOWER; CAST.");
        for (int k : new int[] {LEAST, -1, 7, MOST}) {
            due("k " + k, x.taken(0, k), BAD);
        }
        for (int m : new int[] {LEAST, -1, 3, MOST}) {
            due("MOWER " + m, x.taken(m, 0), NOTHING);
        }
        due("OLD for BOY", x.taken(0, 3), CAST);
        due("STEADY for OLD", with("", STEADY, 0).taken(0, 4), CAST);
        due("MOWER for STEADY", with("", MOWER, 0).taken(0, 1), CAST);
    }

    private static void count() {
        says(36, "How many: 0 MOWERS, 1 FIELDS, 2 SEEN, 3 of the PLAN, 4 of the BOOK, 5 bytes of THE TEXT, "
            + "6 bodies that ran in the latest act() (all, kept or not).");
        NineMowers x = six();
        for (int i = 0; i < 5; i++) {
            Due.field(x, "gap 1");
        }
        for (int i = 0; i < 120; i++) {
            x.feed(1);
            x.see(0, 0, 0);
            x.plan(0);
        }
        for (int i = 0; i < 12; i++) {
            x.book(0);
        }
        x.act(0, 2, 1);
        int[] most = {6, 6, 6, 10, 8, 100, 4};
        for (int what = 0; what <= 6; what++) {
            due("what " + what, x.count(what), most[what]);
            due("what " + what + " at first", new NineMowers().count(what), 0);
        }
        says(36, "BAD.");
        for (int what : new int[] {LEAST, -1, 7, MOST}) {
            due("what " + what, x.count(what), BAD);
        }
    }

    private static void tape() {
        says(37, "A TAPE becomes a row of n (0 .. 60) of a sort, all 0, or holds nothing (sort -1: n does not matter): 1.");
        NineMowers x = new NineMowers();
        for (int sort = 0; sort <= 4; sort++) {
            due("60", x.tape(sort, sort, 60), 1);
            x.item(sort, 0, -1);
            x.item(sort, 59, -1);
            due("60 anew", x.tape(sort, sort, 60), 1);
            due("all 0: first", x.read(sort, 0), 0);
            due("all 0: last", x.read(sort, 59), 0);
            x.item(sort, 1, -1);
            due("0", x.tape(sort, sort, 0), 1);
            due("none to read", x.read(sort, 0), NO);
            due("a row of 0 is a row", x.item(sort, 0, 1), PLACE);
            due("2", x.tape(sort, sort, 2), 1);
            due("all 0: not as it was", x.read(sort, 1), 0);
            for (int n : new int[] {LEAST, -1, 61, MOST}) {
                due("n does not matter", x.tape(sort, -1, n), 1);
                due("holds nothing", x.item(sort, 0, 1), NOTHING);
            }
        }
        says(37, "NONE: tape; BAD: sort, n above 60; SIZE.");
        for (int tape : NO_SIXTH) {
            due("TAPE " + tape, x.tape(tape, 0, 1), NONE);
            due("TAPE " + tape + ", to hold nothing", x.tape(tape, -1, 1), NONE);
        }
        for (int sort : new int[] {LEAST, -2, 5, MOST}) {
            due("sort " + sort, x.tape(0, sort, 1), BAD);
        }
        due("n 61", x.tape(0, 0, 61), BAD);
        due("n MAX", x.tape(0, 0, MOST), BAD);
        due("n -1", x.tape(0, 0, -1), SIZE);
        due("n MIN", x.tape(0, 0, LEAST), SIZE);
    }

    private static void item() {
        says(38, "Item i of a TAPE becomes v (its lowest bits, as many as an item has; booleans: whether v is not 0): 1.");
        NineMowers x = new NineMowers();
        long v = 0x123456789ABCDEFL;
        long[] lowest = {(byte) 0xEF, (short) 0xCDEF, 0x89ABCDEF, v, 1};
        for (int sort = 0; sort <= 4; sort++) {
            x.tape(sort, sort, 60);
            due("the first", x.item(sort, 0, v), 1);
            due("its lowest bits", x.read(sort, 0), lowest[sort]);
            due("the last", x.item(sort, 59, -v), 1);
            due("its lowest bits", x.read(sort, 59), sort == 4 ? 1 : -lowest[sort]);
            due("no other", x.read(sort, 1), 0);
            due("0 again", x.item(sort, 0, 0), 1);
            due("is 0", x.read(sort, 0), 0);
        }
        says(38, "NONE; NOTHING; PLACE.");
        for (int tape : NO_SIXTH) {
            due("TAPE " + tape, x.item(tape, 0, 1), NONE);
        }
        due("nothing", x.item(5, 0, 1), NOTHING);
        due("nothing, no place", x.item(5, -1, 1), NOTHING);
        for (int i : new int[] {LEAST, -1, 60, MOST}) {
            due("place " + i, x.item(0, i, 1), PLACE);
        }
    }

    private static void read() {
        says(39, "Item i of a TAPE.");
        NineMowers x = new NineMowers();
        x.tape(5, 3, 60);
        x.item(5, 59, NO + 1);
        x.item(5, 0, Long.MAX_VALUE);
        due("the last", x.read(5, 59), NO + 1);
        due("the first", x.read(5, 0), Long.MAX_VALUE);
        says(39, "NO: no such TAPE, nothing there, no such place.");
        for (int tape : NO_SIXTH) {
            due("TAPE " + tape, x.read(tape, 0), NO);
        }
        due("nothing", x.read(4, 0), NO);
        for (int i : new int[] {LEAST, -1, 60, MOST}) {
            due("place " + i, x.read(5, i), NO);
        }
    }

    private static void shift() {
        says(40, "n items of a TAPE from i on come to another one (or the same) from j on, as they all were before: n.");
        NineMowers x = new NineMowers();
        x.tape(0, 1, 60);
        x.tape(5, 1, 4);
        counts(x, 60);
        due("60 onto themselves", x.shift(0, 0, 0, 0, 60), 60);
        items(x, 0, 1, 2, 3, 4);
        due("59 onward", x.shift(0, 0, 0, 1, 59), 59);
        items(x, 0, 1, 1, 2, 3, 4);
        due("the last", x.read(0, 59), 59);
        counts(x, 60);
        due("59 back", x.shift(0, 1, 0, 0, 59), 59);
        items(x, 0, 2, 3, 4, 5);
        due("the last but one", x.read(0, 58), 60);
        due("the last stays", x.read(0, 59), 60);
        due("4 to another", x.shift(0, 56, 5, 0, 4), 4);
        items(x, 5, 58, 59, 60, 60);
        due("1 from another", x.shift(5, 0, 0, 59, 1), 1);
        due("the last then", x.read(0, 59), 58);
        for (int i : new int[] {0, 4}) {
            due("0 items", x.shift(5, i, 0, 60, 0), 0);
            due("0 items there", x.shift(0, 60, 5, i, 0), 0);
        }
        items(x, 5, 58, 59, 60, 60);
        x.tape(4, 1, 0);
        due("0 of a row of 0", x.shift(4, 0, 4, 0, 0), 0);
        due("0 of a row of 0 to another", x.shift(4, 0, 5, 4, 0), 0);
        for (int sort = 0; sort <= 4; sort++) {
            x.tape(1, sort, 2);
            x.tape(2, sort, 2);
            x.item(1, 1, -1);
            due("sort " + sort, x.shift(1, 1, 2, 0, 1), 1);
            due("as it was", x.read(2, 0), sort == 4 ? 1 : -1);
            due("no other", x.read(2, 1), 0);
        }
    }

    private static void counts(NineMowers x, int n) {
        for (int i = 0; i < n; i++) {
            x.item(0, i, i + 1);
        }
    }

    private static void items(NineMowers x, int tape, int... want) {
        for (int i = 0; i < want.length; i++) {
            due("item " + i, x.read(tape, i), want[i]);
        }
    }

    private static void shiftPlaces() {
        says(40, "NONE: tapes; NOTHING; CAST: of unlike sorts; PLACE: n, i or j is below 0, or beyond either's end.");
        NineMowers x = new NineMowers();
        x.tape(0, 1, 5);
        x.tape(1, 1, 3);
        for (int tape : NO_SIXTH) {
            due("TAPE " + tape, x.shift(tape, 0, 0, 0, 1), NONE);
            due("to TAPE " + tape, x.shift(0, 0, tape, 0, 1), NONE);
            due("nothing to TAPE " + tape, x.shift(5, 0, tape, 0, 1), NONE);
        }
        due("nothing", x.shift(5, 0, 0, 0, 0), NOTHING);
        due("to nothing", x.shift(0, 0, 5, 0, 0), NOTHING);
        due("nothing to nothing", x.shift(5, 0, 5, 0, 0), NOTHING);
        for (int sort : new int[] {0, 2, 3, 4}) {
            x.tape(2, sort, 5);
            due("unlike " + sort, x.shift(0, 0, 2, 0, 0), CAST);
            due("unlike " + sort, x.shift(2, -1, 0, 0, 9), CAST);
        }
        int[][] places = {{-1, 0, 1}, {0, -1, 1}, {0, 0, -1}, {5, 0, 1}, {6, 0, 0}, {0, 3, 1}, {0, 4, 0}, {3, 0, 3},
            {0, 1, 3}, {0, 0, 4}, {2, 0, 4}, {LEAST, 0, 1}, {0, LEAST, 1}, {0, 0, LEAST}, {MOST, 0, 1}, {0, MOST, 1},
            {0, 0, MOST}, {1, 0, MOST}, {0, 1, MOST}, {MOST, MOST, MOST}, {MOST, 0, 0}, {0, MOST, 0}};
        for (int[] one : places) {
            due("from " + one[0] + " to " + one[1] + ", " + one[2], x.shift(0, one[0], 1, one[1], one[2]), PLACE);
        }
        int[][] ends = {{2, 0, 3}, {4, 2, 1}, {5, 3, 0}, {5, 0, 0}, {0, 3, 0}, {0, 0, 0}};
        for (int[] one : ends) {
            due("from " + one[0] + " to " + one[1] + ", " + one[2], x.shift(0, one[0], 1, one[1], one[2]), one[2]);
        }
    }
}
