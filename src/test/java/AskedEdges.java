/** The edges that the terms name of what is asked: ON to MEAN. */
final class AskedEdges {
    private static final int NONE = -1, BAD = -2, NOBODY = -5, FAR_NONE = -100001, FAR_BAD = -100002;
    private static final long NO = Long.MIN_VALUE;
    private static final int MOWER = 0, STEADY = 1, BOY = 3, PRESSED = 5, TOLD = 6;
    private static final int LEAST = Integer.MIN_VALUE, MOST = Integer.MAX_VALUE;

    private AskedEdges() {
    }

    static void all() {
        late();
        changesNothing();
        on();
        done();
        order();
        orderOf();
        whets();
        apart();
        stop();
        hits();
        alone();
        rest();
        paused();
        odds();
        mean();
    }

    private static void due(String call, long got, long want) {
        Document.due(call, got, want);
    }

    private static NineMowers with(String text, int... kindsAndVs) {
        return Due.with(text, kindsAndVs);
    }

    private static void late() {
        Document.says("All that follows is asked, goes on from how all is (MINUTES also beyond 9999),");
        NineMowers x = Due.atMinute(9999, "fast 5 d=0;long 17", STEADY, 0);
        due("MINUTE 9999", x.on(1, 0), 6);
        due("MINUTE 10000", x.on(2, 0), 17);
        due("MINUTE 10058", x.on(60, 0), 6 + 11 + 8 * 6 + 50 * 3 + 5 * 2);
        due("done", x.done(), 2);
        due("order", x.order(2, -1), 17);
        due("whets", x.whets(2, 0), 3);
        due("whets, how much", x.whets(2, 1), 17);
        due("whets all that while", x.whets(1, 0), 2);
        due("apart", x.apart(2, 1), 17);
        due("stop", x.stop(0, 1, 2, 0), 6);
        due("alone", x.alone(60), 0);
        due("rest", x.rest(60, 0), NOBODY);
        due("paused", x.paused(2, 0), 2);
        due("paused, how much", x.paused(2, 1), 17);
        due("mean", x.mean(2, 0), 17);
        due("odds", x.odds(0, 60, 1), 1);
        x.plan(0);
        x.plan(0);
        due("planned", x.planned(), 17);
        x.plan(1);
        x.plan(2);
        x.plan(0);
        due("planned, with WHETTING and a PAUSE", x.planned(), 23);
        x.book(0);
        due("looked", x.looked(), 0);
        x.see(0, 4, 6);
        due("who", x.who(), 1);
        due("MINUTE stays", x.told(0), 9999);
        NineMowers rested = Due.atMinute(9999, "slow 5 d=9|d<4;fast 6 e=10&d=4", STEADY, 0);
        due("rest beyond", rested.rest(6, 0), 0);
        due("rest beyond, how much", rested.rest(6, 1), 12);
        NineMowers told = Due.atMinute(9999, "", TOLD, 0);
        told.row(0, 3, 1);
        told.row(0, 0, 9);
        due("ROW at 9999 modulo 4", told.on(1, 0), 4);
        due("ROW at 10000 modulo 4", told.on(2, 0), 16);
    }

    private static void changesNothing() {
        Document.says("and changes nothing.");
        NineMowers x = with("fast 3 d=2;gap 3", MOWER, 0, PRESSED, 4, TOLD, 3);
        x.minute();
        x.set(1, 3, 2);
        x.image();
        x.act(2, 2, 4);
        x.see(0, 3, 20);
        x.plan(0);
        x.book(1);
        String before = Due.shown(x);
        int[] answers = asked(x);
        Document.holds("all is as before", before.equals(Due.shown(x)));
        int[] again = asked(x);
        for (int i = 0; i < answers.length; i++) {
            due("asked " + i + " again", again[i], answers[i]);
        }
    }

    private static int[] asked(NineMowers x) {
        return new int[] {x.on(60, 0), x.on(9, 11), x.on(9, 21), x.done(), x.order(12, -1), x.order(9, 0),
            x.whets(60, 0), x.apart(60, 0), x.stop(0, 20, 60, 0), x.stop(0, 20, 60, 1), x.alone(60), x.rest(60, 0),
            x.paused(30, 0), x.who(), (int) x.odds(1, 60, 0), (int) x.mean(60, 0), x.planned(), x.looked(),
            x.judge(0, 0), x.taken(0, 0), x.of(1, 8), x.told(0), x.trace(0), x.count(6), (int) x.read(0, 0)};
    }

    private static void on() {
        Document.says("ON n MINUTES (0 .. 60): AT of one; all AT, together; how many times one was HELD in these.");
        NineMowers x = with("", STEADY, 0, STEADY, 0);
        x.set(0, 0, 7);
        due("0: all", x.on(0, 0), 7);
        due("0: one", x.on(0, 10), 7);
        due("0: HELD", x.on(0, 21), 0);
        due("1: all", x.on(1, 0), 19);
        due("1: one", x.on(1, 11), 6);
        due("60: all", x.on(60, 0), 7 + 2 * 210);
        due("60: one", x.on(60, 11), 210);
        due("60: HELD", x.on(60, 21), 0);
        x.set(0, 3, 99);
        due("1: 5 of 6", x.on(1, 21), 1);
        due("60 times HELD", x.on(60, 21), 60);
        due("59 times HELD", x.on(59, 21), 59);
        due("STOPPED, never HELD", x.on(60, 20), 0);
        for (int what : new int[] {0, 10, 20}) {
            for (int n : new int[] {LEAST, -1, 61, MOST}) {
                due("n " + n, x.on(n, what), BAD);
            }
        }
        NineMowers six = with("", STEADY, 0, STEADY, 0, STEADY, 0, STEADY, 0, STEADY, 0, STEADY, 0);
        due("the sixth's AT", six.on(6, 15), 26);
        due("the sixth is HELD", six.on(6, 25), 2);
        for (int what : new int[] {LEAST, -1, 1, 9, 16, 19, 26, 29, 30, MOST}) {
            due("what " + what, six.on(1, what), NONE);
            due("what ahead of n", six.on(-1, what), NONE);
        }
        due("nobody, all", new NineMowers().on(60, 0), 0);
        due("nobody's AT", new NineMowers().on(60, 10), NONE);
        due("nobody HELD", new NineMowers().on(60, 20), NONE);
    }

    private static void done() {
        Document.says("DONE: behind how many MINUTES (0 .. 120) all AT are LENGTH or more (-5: not by then).");
        NineMowers x = with("slow 5 e>0;slow 4 e=0;long 20", STEADY, 0, STEADY, 0);
        x.set(0, 0, 50);
        int[][] all = {{99, 0, 0}, {20, 0, 0}, {19, 0, 1}, {18, 0, 2}, {0, 0, 20}, {0, 99, 119}, {0, 1, 21}};
        for (int[] one : all) {
            x.set(1, 0, one[0]);
            x.set(1, 3, one[1]);
            due("AT " + one[0] + ", STOPPED " + one[1], x.done(), one[2]);
        }
        NineMowers most = with("slow 5 e>0;slow 4 e=0;long 21", STEADY, 0);
        most.set(0, 3, 99);
        due("120", most.done(), 120);
        most.pause(1);
        due("119", most.done(), 119);
        NineMowers over = with("slow 5 e>0;slow 4 e=0;long 22", STEADY, 0);
        over.set(0, 3, 99);
        due("121", over.done(), NOBODY);
        NineMowers never = with("slow 6 m=1", STEADY, 0, STEADY, 0);
        due("one never", never.done(), NOBODY);
        never.set(1, 0, 60);
        due("one at LENGTH ahead", never.done(), 10);
        due("nobody", with("long 99").done(), 0);
        NineMowers least = with("long 0", STEADY, 0);
        due("LENGTH 1, AT 0", least.done(), 1);
        least.set(0, 0, 1);
        due("LENGTH 1, AT 1", least.done(), 0);
    }

    private static void order() {
        Document.says("ORDER (5 MOWERS at most, else -9) of n MINUTES (1 .. 12):");
        NineMowers x = with("gap 0", STEADY, 0, STEADY, 0, STEADY, 0, STEADY, 0, STEADY, 0);
        due("five", x.order(1, -1), 30);
        due("five, the last", x.order(1, 4), 4);
        due("12", x.order(12, -1), 5 * 66);
        for (int n : new int[] {LEAST, 0, 13, MOST}) {
            due("n " + n, x.order(n, 0), BAD);
            due("n " + n + ", how much", x.order(n, -1), BAD);
        }
        for (int k : new int[] {LEAST, -2, 5, MOST}) {
            due("k " + k, x.order(1, k), NONE);
        }
        x.mower(0, 0);
        for (int k = -1; k <= 4; k++) {
            due("six, k " + k, x.order(1, k), -9);
        }
        due("six, n 12", x.order(12, 0), -9);
        due("six, but n", x.order(13, 0), BAD);
        due("six, but k", x.order(1, 5), NONE);
    }

    private static void orderOf() {
        Document.says("the row by which, were it THE ROW, and AT of all 0, all AT, together, are most behind n MINUTES "
            + "(of several the first as a row): how much; the k-th of it.");
        NineMowers x = with("", STEADY, 0, STEADY, 0, STEADY, 0);
        x.place(2, 0);
        x.set(0, 0, 9999);
        x.set(1, 0, 500);
        due("AT of all 0", x.order(1, -1), 6 + 4 + 2);
        rows("all alike", x, 1, 0, 1, 2, NOBODY, NOBODY);
        x.set(0, 3, 1);
        due("STOPPED stays", x.order(1, -1), 6 + 4);
        rows("the STOPPED one last", x, 1, 1, 2, 0, NOBODY, NOBODY);
        x.set(1, 3, 1);
        rows("two STOPPED", x, 1, 2, 0, 1, NOBODY, NOBODY);
        due("AT stays", x.of(0, 2), 9999);
        due("THE ROW stays", x.told(10), 2);
        NineMowers five = with("fast 1 p=0&m=4;fast 1 p=1&m=3;fast 1 p=3&m=1;gap 0", STEADY, 0, STEADY, 0, STEADY, 0,
            STEADY, 0, STEADY, 0);
        due("two go on by 1 more", five.order(1, -1), 7 + 7 + 6 * 3);
        rows("of several the first", five, 1, 4, 3, 0, 1, 2);
        NineMowers last = with("fast 9 p=0&m=4;fast 8 p=1&m=3;fast 7 p=2&m=2;fast 6 p=3&m=1;gap 0", STEADY, 0, STEADY, 0,
            STEADY, 0, STEADY, 0, STEADY, 0);
        rows("the 120th", last, 1, 4, 3, 2, 1, 0);
        due("how much", last.order(1, -1), 15 + 14 + 13 + 12 + 6);
        NineMowers still = with("slow 6 m<9", STEADY, 0, STEADY, 0, STEADY, 0);
        rows("as none goes on, the first row", still, 12, 0, 1, 2, NOBODY, NOBODY);
        due("none goes on", still.order(12, -1), 0);
        NineMowers one = with("", STEADY, 0);
        due("one", one.order(12, -1), 66);
        rows("one", one, 12, 0, NOBODY, NOBODY, NOBODY, NOBODY);
        due("nobody", new NineMowers().order(12, -1), 0);
        rows("nobody", new NineMowers(), 12, NOBODY, NOBODY, NOBODY, NOBODY, NOBODY);
    }

    private static void rows(String how, NineMowers x, int n, int... want) {
        for (int k = 0; k < want.length; k++) {
            due(how + ", k " + k, x.order(n, k), want[k]);
        }
    }

    private static void whets() {
        Document.says("WHETS of n MINUTES (1 .. 60): the k (1 .. 15; 16: never) by which, if of n MINUTES (numbers 1, 2 .. n) "
            + "those whose number is a multiple of k are WHETTING in place of mowing, all AT, together, are most behind them "
            + "(of several the least); how much.");
        NineMowers late = with("fast 50 e=10&d=5&t=1", STEADY, 0);
        most("15", late.whets(16, 0), late.whets(16, 1), 15, 60 + 4 * 3 + 56);
        NineMowers never = with("slow 3 e>0", STEADY, 0);
        most("16: never", never.whets(60, 0), never.whets(60, 1), 16, 180);
        most("never within 14", never.whets(14, 0), never.whets(14, 1), 15, 42);
        NineMowers still = with("slow 6 m=0", STEADY, 0);
        most("1, as none goes on", still.whets(60, 0), still.whets(60, 1), 1, 0);
        NineMowers first = with("slow 6 e<10|d=0", STEADY, 0);
        first.set(0, 1, 9);
        most("2: WHETTING as number 2, then 6", first.whets(3, 0), first.whets(3, 1), 2, 6);
        NineMowers one = with("", STEADY, 0);
        most("n 1: 2 is like 16", one.whets(1, 0), one.whets(1, 1), 2, 6);
        one.set(0, 3, 1);
        most("n 1, STOPPED", one.whets(1, 0), one.whets(1, 1), 1, 0);
        most("n 2, STOPPED for number 1", one.whets(2, 0), one.whets(2, 1), 3, 6);
        one.set(0, 1, 0);
        one.set(0, 3, 0);
        most("9 and 11 alike", one.whets(60, 0), one.whets(60, 1), 9, 8 * 3 + 5 * 48 + 36);
        most("nobody", new NineMowers().whets(60, 0), new NineMowers().whets(60, 1), 1, 0);
        for (int n : new int[] {LEAST, -1, 0, 61, MOST}) {
            due("n " + n, one.whets(n, 0), BAD);
        }
    }

    private static void most(String how, int k, int much, int wantedK, int wantedMuch) {
        due(how, k, wantedK);
        due(how + ", how much", much, wantedMuch);
    }

    private static void apart() {
        Document.says("APART of n MINUTES (1 .. 60): the GAP (0 .. 9), in place of the FIELD's, by which all AT, together, "
            + "are most behind n MINUTES (of several the least); how much.");
        NineMowers x = with("gap 99", STEADY, 0, STEADY, 0);
        most("0, in place of 99", x.apart(1, 0), x.apart(1, 1), 0, 12);
        most("60 MINUTES", x.apart(60, 0), x.apart(60, 1), 0, 420);
        NineMowers pressed = with("", PRESSED, 0, STEADY, 0);
        int[][] all = {{2, 0, 16}, {3, 1, 17}, {9, 7, 23}, {11, 9, 25}, {12, 0, 24}, {99, 0, 111}};
        for (int[] one : all) {
            pressed.set(0, 0, one[0]);
            most("pressed by " + one[0], pressed.apart(1, 0), pressed.apart(1, 1), one[1], one[2]);
        }
        pressed.set(0, 0, 10);
        due("the FIELD's GAP again", pressed.on(1, 0), 22);
        due("the FIELD's GAP still", pressed.told(1), 2);
        most("nobody", new NineMowers().apart(1, 0), new NineMowers().apart(60, 1), 0, 0);
        for (int n : new int[] {LEAST, -1, 0, 61, MOST}) {
            due("n " + n, x.apart(n, 0), BAD);
        }
    }

    private static void stop() {
        Document.says("STOP of one by r (1 .. 20), n MINUTES (1 .. 60): by how much all AT, together, are less behind "
            + "n MINUTES, if it is STOPPED r more now, than as it is (may be below 0);");
        NineMowers x = with("gap 0", STEADY, 0, STEADY, 0);
        due("r 1, n 1: nobody is ahead of 1", x.stop(1, 1, 1, 0), 6);
        due("r 1, n 1: both", x.stop(0, 1, 1, 0), 12);
        due("r 20, n 60: both 20 MINUTES less", x.stop(0, 20, 60, 0), 2 * 20 * 3);
        due("r 20, n 20", x.stop(1, 20, 20, 0), 60 + 30);
        due("r 20, n 1", x.stop(1, 20, 1, 0), 6);
        x.set(1, 3, 2);
        due("2 and 1 more, n 2", x.stop(1, 1, 2, 0), 0);
        due("2 and 1 more, n 3", x.stop(1, 1, 3, 0), 6);
        x.set(1, 3, 99);
        due("99 and 20 more", x.stop(1, 20, 60, 0), 0);
        NineMowers better = with("slow 5 d=0;slow 6 e<10", STEADY, 0);
        due("below 0", better.stop(0, 1, 2, 0), -5);
        due("alike", with("slow 6 e<10", STEADY, 0).stop(0, 1, 2, 0), 0);
        for (int bad : new int[] {LEAST, -1, 0, MOST}) {
            due("r " + bad, x.stop(0, bad, 1, 0), FAR_BAD);
            due("n " + bad, x.stop(0, 1, bad, 0), FAR_BAD);
        }
        due("r 21", x.stop(0, 21, 1, 0), FAR_BAD);
        due("n 61", x.stop(0, 1, 61, 0), FAR_BAD);
    }

    private static void hits() {
        Document.says("HITS: those others, as bits, whose AT is less then.");
        NineMowers x = with("gap 0", STEADY, 0, STEADY, 0, STEADY, 0, STEADY, 0, STEADY, 0, STEADY, 0);
        due("all others", x.stop(0, 1, 1, 1), 62);
        due("those behind 3", x.stop(3, 1, 1, 1), 48);
        due("the last one hits none", x.stop(5, 20, 60, 1), 0);
        x.place(5, 0);
        due("the first one then", x.stop(5, 1, 1, 1), 31);
        x.set(2, 3, 1);
        due("not one who stays anyway", x.stop(1, 1, 1, 1), 0);
        NineMowers more = with("slow 5 d=0;slow 6 e<10;gap 0", STEADY, 0, STEADY, 0);
        due("not one whose AT is more then", more.stop(0, 1, 2, 1), 0);
        due("its AT is more", more.stop(0, 1, 2, 0), -10);
        due("one alone", with("", STEADY, 0).stop(0, 1, 1, 1), 0);
    }

    private static void alone() {
        Document.says("ALONE of n MINUTES (1 .. 60): all AT, together, behind n MINUTES, less AT of all, together, behind "
            + "n MINUTES in each of which that one is in THE ROW alone, at place 0 (may be below 0).");
        NineMowers x = with("", STEADY, 0, STEADY, 0, STEADY, 0);
        due("below 0", x.alone(1), (6 + 4 + 2) - 18);
        due("60", x.alone(60), -6);
        x.set(0, 0, 40);
        x.set(1, 0, 20);
        due("alike", x.alone(60), 0);
        due("above 0", with("", PRESSED, 0, STEADY, 0).alone(1), 8 + 6 - 12);
        NineMowers last = with("fast 5 p>0;gap 0", STEADY, 0, STEADY, 0);
        last.set(0, 0, 50);
        due("at place 0", last.alone(1), (56 + 11) - (56 + 6));
        last.set(0, 3, 1);
        due("STOPPED alone too", last.alone(1), (50 + 11) - (50 + 6));
        NineMowers end = with("", STEADY, 0, STEADY, 0);
        end.set(0, 0, 9999);
        end.set(1, 0, 9999);
        due("9999 at most", end.alone(60), 0);
        due("one", with("", STEADY, 0).alone(1), 0);
        due("nobody", new NineMowers().alone(1), 0);
        for (int n : new int[] {LEAST, -1, 0, 61, MOST}) {
            due("n " + n, x.alone(n), FAR_BAD);
        }
    }

    private static void rest() {
        Document.says("REST of n MINUTES (1 .. 60): the MOWER by whom, were it STOPPED 5 more now, all AT, together, are most "
            + "behind n MINUTES, if more than as it is (of several the least number; -5: by nobody); how much.");
        String early = "slow 5 d<5;slow 6 e<10;gap 0";
        NineMowers x = with(early, STEADY, 0, STEADY, 0);
        x.set(0, 0, 40);
        x.set(1, 0, 20);
        most("6 in place of 1", x.rest(6, 0), x.rest(6, 1), 0, 46 + 21);
        most("within 5 there is no more", x.rest(5, 0), x.rest(5, 1), NOBODY, NOBODY);
        x.place(1, 0);
        most("who has one at the heels, but in THE ROW", x.rest(6, 0), x.rest(6, 1), 1, 40 + 26);
        NineMowers alike = with("slow 5 d<5;slow 5 d=5;slow 6 e<10;gap 0", STEADY, 0);
        most("1 in place of 1 is no more", alike.rest(6, 0), alike.rest(6, 1), NOBODY, NOBODY);
        NineMowers more = with("slow 5 d<5;slow 4 d=5;slow 6 e<10;gap 0", STEADY, 0);
        most("2 in place of 1", more.rest(6, 0), more.rest(6, 1), 0, 2);
        NineMowers sixth = with(early + ";slow 6 m<5", STEADY, 0, STEADY, 0, STEADY, 0, STEADY, 0, STEADY, 0, STEADY, 0);
        sixth.place(5, 0);
        most("the sixth", sixth.rest(60, 0), sixth.rest(60, 1), 5, 6);
        sixth.set(5, 3, 1);
        most("5 more than 1", sixth.rest(6, 0), sixth.rest(6, 1), NOBODY, NOBODY);
        most("n 1", with("", STEADY, 0).rest(1, 0), with("", STEADY, 0).rest(1, 1), NOBODY, NOBODY);
        most("nobody", new NineMowers().rest(60, 0), new NineMowers().rest(60, 1), NOBODY, NOBODY);
        for (int n : new int[] {LEAST, -1, 0, 61, MOST}) {
            due("n " + n, x.rest(n, 0), BAD);
        }
    }

    private static void paused() {
        Document.says("PAUSED of n MINUTES (1 .. 30): the k (0 .. n) by which, if k MINUTES go, then there is a PAUSE of 5, "
            + "then n less k MINUTES go, all AT, together, are most (of several the least); how much.");
        NineMowers x = with("", STEADY, 0);
        most("all alike", x.paused(30, 0), x.paused(30, 1), 0, 60 + 20 * 3);
        most("n 1, alike", x.paused(1, 0), x.paused(1, 1), 0, 6);
        NineMowers first = with("fast 9 d=5", STEADY, 0);
        most("n 1, k 0", first.paused(1, 0), first.paused(1, 1), 0, 15);
        NineMowers last = with("fast 9 d=0", STEADY, 0);
        most("n 1, k 1", last.paused(1, 0), last.paused(1, 1), 1, 15);
        NineMowers end = with("slow 6 t<9", STEADY, 0);
        end.set(0, 2, 99);
        most("n 30, k 30: TIRED from there on is too little", end.paused(30, 0), end.paused(30, 1), 30, 60 + 20 * 3);
        NineMowers stopped = with("", STEADY, 0);
        stopped.set(0, 3, 5);
        most("the PAUSE is of 5", stopped.paused(2, 0), stopped.paused(2, 1), 0, 12);
        stopped.set(0, 3, 6);
        most("of 5, not of 6", stopped.paused(2, 0), stopped.paused(2, 1), 0, 6);
        NineMowers tired = with("", MOWER, 0);
        tired.set(0, 2, 34);
        most("TIRED 15 less", tired.paused(1, 0), tired.paused(1, 1), 0, 6);
        tired.set(0, 2, 35);
        most("TIRED 20 is left", tired.paused(1, 0), tired.paused(1, 1), 0, 5);
        most("nobody", new NineMowers().paused(30, 0), new NineMowers().paused(1, 1), 0, 0);
        for (int n : new int[] {LEAST, -1, 0, 31, MOST}) {
            due("n " + n, x.paused(n, 0), BAD);
        }
    }

    private static void odds() {
        Document.says("ODDS of one and n (1 .. 60): if any of the MOWERS is STOPPED 5 more now, each alike likely: "
            + "how likely that one is HELD in some of n MINUTES: a fraction in lowest terms.");
        NineMowers x = with("gap 0", STEADY, 0, STEADY, 0, STEADY, 0, STEADY, 0, STEADY, 0, STEADY, 0);
        for (int m = 0; m < 6; m++) {
            int[][] lowest = {{0, 1}, {1, 6}, {1, 3}, {1, 2}, {2, 3}, {5, 6}};
            due("above", x.odds(m, 1, 0), lowest[m][0]);
            due("below", x.odds(m, 1, 1), lowest[m][1]);
            due("above, 60", x.odds(m, 60, 0), lowest[m][0]);
            due("below, 60", x.odds(m, 60, 1), lowest[m][1]);
        }
        x.set(0, 3, 7);
        due("itself STOPPED for 5: above", x.odds(1, 5, 0), 5);
        due("itself STOPPED for 5: below", x.odds(1, 5, 1), 6);
        due("HELD in the sixth: above", x.odds(1, 6, 0), 1);
        due("HELD in the sixth: below", x.odds(1, 6, 1), 1);
        NineMowers one = with("", STEADY, 0);
        due("one: above", one.odds(0, 60, 0), 0);
        due("one: below", one.odds(0, 60, 1), 1);
        for (int n : new int[] {LEAST, -1, 0, 61, MOST}) {
            due("n " + n, x.odds(0, n, 0), NO);
        }
    }

    private static void mean() {
        Document.says("MEAN of n (1 .. 60): all AT behind n MINUTES, together, by how many MOWERS there are: "
            + "a fraction in lowest terms (NO: nobody).");
        NineMowers x = with("gap 0;slow 6 m>0", STEADY, 0);
        int[] below = {1, 1, 1, 2, 5, 1};
        for (int count = 1; count <= 6; count++) {
            due(count + ": above", x.mean(1, 0), 6 * below[count - 1] / count);
            due(count + ": below", x.mean(1, 1), below[count - 1]);
            x.mower(BOY, 0);
        }
        due("60: above", x.mean(60, 0), 35);
        due("60: below", x.mean(60, 1), 1);
        x.set(5, 0, 9999);
        due("above much", x.mean(60, 0), (9999 + 210) / 3);
        due("below much", x.mean(60, 1), 2);
        NineMowers still = with("slow 6 m<9", STEADY, 0, STEADY, 0, STEADY, 0);
        due("0: above", still.mean(60, 0), 0);
        due("0: below", still.mean(60, 1), 1);
        due("nobody, above", new NineMowers().mean(1, 0), NO);
        due("nobody, below", new NineMowers().mean(1, 1), NO);
        for (int n : new int[] {LEAST, -1, 0, 61, MOST}) {
            due("n " + n, x.mean(n, 1), NO);
        }
    }
}
