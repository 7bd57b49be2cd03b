/** At least one test for every promise of the document; the answers are worked out by hand from its words. */
public final class PromiseTests {
    private static final int NONE = NineMowers.NONE, BAD = NineMowers.BAD;
    private static final int STATE = NineMowers.STATE, FULL = NineMowers.FULL;
    private static final long NO = NineMowers.NO;
    private static final int MOWER = 0, STEADY = 1, HASTY = 2, BOY = 3, OLD = 4, PRESSED = 5, TOLD = 6;

    public static void main(String[] args) {
        newObject();
        mower();
        of();
        strides();
        set();
        row();
        place();
        feed();
        field();
        faults();
        tests();
        tens();
        told();
        minute();
        minuteEdges();
        whet();
        pause();
        on();
        done();
        order();
        whets();
        apart();
        stop();
        alone();
        rest();
        paused();
        see();
        who();
        odds();
        mean();
        plan();
        planned();
        book();
        looked();
        judge();
        image();
        undo();
        act();
        trace();
        taken();
        count();
        tape();
        item();
        read();
        shift();
        Due.close("PromiseTests");
    }

    private static void due(String call, long got, long want) {
        Due.due(call, got, want);
    }

    private static NineMowers with(String text, int... kindsAndVs) {
        return Due.with(text, kindsAndVs);
    }

    private static void minutes(NineMowers x, int n) {
        for (int i = 0; i < n; i++) {
            x.minute();
        }
    }

    private static NineMowers atMinute(int minute, int... kindsAndVs) {
        return Due.atMinute(minute, "", kindsAndVs);
    }

    // Promise 1
    private static void newObject() {
        NineMowers x = new NineMowers();
        due("NO", NineMowers.NO, Long.MIN_VALUE);
        for (int what = 0; what <= 6; what++) {
            due("new count " + what, x.count(what), 0);
        }
        due("new MINUTE", x.told(0), 0);
        due("new GAP", x.told(1), 2);
        due("new TIRE", x.told(2), 1);
        due("new LENGTH", x.told(3), 60);
        due("new first of THE ROW", x.told(10), NONE);
        due("new of", x.of(0, 0), NONE);
        due("new undo", x.undo(), STATE);
        due("new trace", x.trace(0), NONE);
        due("new read", x.read(0, 0), NO);
        NineMowers other = with("gap 5", MOWER, 1);
        due("another's GAP", other.told(1), 5);
        due("GAP stays", x.told(1), 2);
        due("MOWERS stay", x.count(0), 0);
    }

    // Promise 2
    private static void mower() {
        NineMowers x = new NineMowers();
        due("kind -1", x.mower(-1, 0), NONE);
        due("kind 7", x.mower(7, 0), NONE);
        due("kind ahead of v", x.mower(7, 10), NONE);
        due("v -1", x.mower(0, -1), BAD);
        due("v 10", x.mower(6, 10), BAD);
        due("first", x.mower(TOLD, 9), 0);
        due("second", x.mower(MOWER, 0), 1);
        x.place(1, 0);
        due("third", x.mower(PRESSED, 3), 2);
        due("third comes last", x.told(12), 2);
        due("third is last", x.of(2, 6), 2);
        for (int m = 3; m < 6; m++) {
            due("more", x.mower(STEADY, m), m);
        }
        due("full", x.mower(0, 0), FULL);
        due("kind ahead of full", x.mower(9, 0), NONE);
        due("v ahead of full", x.mower(0, 10), BAD);
        due("six", x.count(0), 6);
    }

    // Promise 3
    private static void of() {
        NineMowers x = with("", HASTY, 4, TOLD, 7);
        int[] first = {HASTY, 4, 0, 10, 0, 0, 0, 6, 10};
        int[] second = {TOLD, 7, 0, 10, 0, 0, 1, 6, 3};
        for (int what = 0; what <= 8; what++) {
            due("of 0, " + what, x.of(0, what), first[what]);
            due("of 1, " + what, x.of(1, what), second[what]);
        }
        due("of what 9", x.of(0, 9), NONE);
        due("of what -1", x.of(0, -1), NONE);
        due("of nobody", x.of(2, 0), NONE);
        due("of -1", x.of(-1, 0), NONE);
        due("of far", x.of(Integer.MAX_VALUE, Integer.MIN_VALUE), NONE);
    }

    // Promise 3: STRIDE by KIND
    private static void strides() {
        NineMowers x = with("", MOWER, 5, STEADY, 5, HASTY, 5, BOY, 5, OLD, 8, TOLD, 2);
        x.row(5, 0, 4);
        x.row(5, 2, 9);
        strides("fresh", x, 6, 6, 11, 3, 4, 7);
        for (int m = 0; m < 6; m++) {
            x.set(m, 2, 45);
        }
        strides("tired 45", x, 4, 6, 9, 2, 4, 6);
        x.set(0, 2, 40);
        x.set(2, 2, 39);
        strides("cut by 20", x, 4, 6, 10, 2, 4, 6);
        x.set(2, 2, 45);
        for (int m = 0; m < 6; m++) {
            x.set(m, 1, 5);
        }
        strides("edge 5", x, 4, 6, 4, 2, 4, 6);
        for (int m = 0; m < 6; m++) {
            x.set(m, 1, 6);
        }
        strides("edge 6", x, 4, 6, 9, 2, 4, 6);
        for (int m = 0; m < 6; m++) {
            x.set(m, 1, 0);
            x.set(m, 2, 25);
        }
        strides("edge 0, tired 25", x, 2, 3, 2, 1, 2, 3);
        x.pause(2);
        strides("minute 2", x, 3, 3, 3, 1, 2, 6);
        pressed();
        NineMowers old = with("slow 3 m<9", OLD, 2, OLD, 3, OLD, 6, OLD, 9);
        strides("v by 3", old, 3, 2, 1, 0);
        NineMowers slow = with("slow 5 e>0", MOWER, 0, BOY, 0, OLD, 9, HASTY, 3);
        for (int m = 0; m < 4; m++) {
            slow.set(m, 2, 99);
        }
        strides("none below 0", slow, 0, 0, 0, 3);
        NineMowers slower = with("slow 99 m>8|m<9", STEADY, 0);
        due("PACE is 0 at least", slower.of(0, 7), 0);
    }

    private static void strides(String how, NineMowers x, int... due) {
        for (int m = 0; m < due.length; m++) {
            due("STRIDE " + how + " of " + m, x.of(m, 8), due[m]);
        }
    }

    private static void pressed() {
        NineMowers x = with("", PRESSED, 1, PRESSED, 1);
        x.set(0, 0, 4);
        strides("pressed by 4", x, 9, 7);
        x.set(0, 0, 5);
        strides("not pressed by 5", x, 7, 7);
        x.set(0, 1, 5);
        x.set(1, 0, 5);
        strides("pressed, dull", x, 8, 7);
        NineMowers wide = with("gap 7", PRESSED, 0, MOWER, 0);
        wide.set(0, 0, 9);
        due("pressed by 9 of 10", wide.of(0, 8), 8);
        wide.set(0, 0, 10);
        due("not pressed by 10", wide.of(0, 8), 6);
        wide.set(1, 0, 30);
        due("who is ahead is behind by less", wide.of(0, 8), 8);
        wide.place(0, 1);
        due("the last one is pressed by nobody", wide.of(0, 8), 6);
    }

    // Promise 4
    private static void set() {
        NineMowers x = with("", MOWER, 0);
        int[] most = {9999, 10, 99, 99};
        int[] atFirst = {0, 10, 0, 0};
        for (int what = 0; what < 4; what++) {
            due("set above", x.set(0, what, most[what] + 1), BAD);
            due("set below", x.set(0, what, -1), BAD);
            due("set most", x.set(0, what, most[what]), atFirst[what]);
            due("was set", x.of(0, what + 2), most[what]);
            due("set 0", x.set(0, what, 0), most[what]);
        }
        due("set nobody", x.set(1, 0, -1), NONE);
        due("set what 4", x.set(0, 4, -1), NONE);
        due("set what -1", x.set(0, -1, 0), NONE);
    }

    // Promise 5
    private static void row() {
        NineMowers x = with("", TOLD, 3, BOY, 0);
        due("row", x.row(0, 3, 9), 0);
        due("row again", x.row(0, 3, 1), 9);
        due("row another part", x.row(0, 0, 2), 0);
        due("row of a BOY", x.row(1, 0, 0), STATE);
        due("row of a BOY, bad", x.row(1, 0, 10), BAD);
        due("row below", x.row(0, 0, -1), BAD);
        due("row above", x.row(0, 0, 10), BAD);
        due("row part 4", x.row(0, 4, 10), NONE);
        due("row part -1", x.row(0, -1, 0), NONE);
        due("row of nobody", x.row(2, 0, 0), NONE);
        int[] strides = {5, 3, 3, 4, 5};
        for (int i = 0; i < 5; i++) {
            due("STRIDE of a TOLD one, MINUTE " + i, x.of(0, 8), strides[i]);
            x.pause(1);
        }
    }

    // Promise 6
    private static void place() {
        NineMowers x = with("", MOWER, 0, MOWER, 0, MOWER, 0, MOWER, 0);
        due("0 to the end", x.place(0, 3), 0);
        row(x, 1, 2, 3, 0);
        due("3 to the front", x.place(3, 0), 2);
        row(x, 3, 1, 2, 0);
        due("1 one back", x.place(1, 2), 1);
        row(x, 3, 2, 1, 0);
        due("stays", x.place(2, 1), 1);
        row(x, 3, 2, 1, 0);
        due("place of nobody", x.place(4, 0), NONE);
        due("place 4", x.place(0, 4), NONE);
        due("place -1", x.place(0, -1), NONE);
        row(x, 3, 2, 1, 0);
        due("of place", x.of(0, 6), 3);
    }

    private static void row(NineMowers x, int... due) {
        for (int k = 0; k < due.length; k++) {
            due("THE ROW's " + k, x.told(10 + k), due[k]);
        }
        due("THE ROW ends", x.told(10 + due.length), NONE);
    }

    // Promise 7
    private static void feed() {
        NineMowers x = new NineMowers();
        due("sign -1", x.feed(-1), BAD);
        due("sign 128", x.feed(128), BAD);
        due("sign 0", x.feed(0), 1);
        due("sign 127", x.feed(127), 2);
        due("empties", x.field(), -10);
        for (int i = 1; i <= 100; i++) {
            due("feed", x.feed(i % 128), i);
        }
        due("feed full", x.feed(1), FULL);
        due("feed bad ahead of full", x.feed(128), BAD);
        due("text full", x.count(5), 100);
    }

    // Promise 8
    private static void field() {
        NineMowers x = new NineMowers();
        for (int i = 0; i < 6; i++) {
            due("field faulty", Due.field(x, "gap x"), -14);
            due("text is empty then", x.count(5), 0);
            due("field", Due.field(x, "gap " + i), i);
            due("holds", x.told(1), i);
            due("text is empty behind a field", x.count(5), 0);
            if (i < 5) {
                due("faulty", Due.field(x, "gap 9;"), -16);
            }
            due("the one that held holds", x.told(1), i);
        }
        Due.feed(x, "gap 9;");
        due("full", x.field(), FULL);
        due("THE TEXT stays", x.count(5), 6);
        due("the last one holds", x.told(1), 5);
    }

    private static void faults() {
        fault("", 0);
        fault("x", 0);
        fault("fasT 1 m=1", 3);
        fault("fast  1 m=1", 5);
        fault("fast 1", 6);
        fault("fast 1 ", 7);
        fault("fast 1m=1", 6);
        fault("fast 1  m=1", 7);
        fault("fast m=1", 5);
        fault("fast 123 m=1", 7);
        fault("slow 1 m=1 ", 10);
        fault("slow 1 m>=1", 9);
        fault("slow 1 m!1", 8);
        fault("slow 1 m=123", 11);
        fault("slow 1 m=1&", 11);
        fault("slow 1 m=1|&", 11);
        fault("slow 1 m=1|;", 11);
        fault("slow 1 (m=1", 11);
        fault("slow 1 m=1)", 10);
        fault("slow 1 ()", 8);
        fault("slow 1 a=1", 7);
        fault("slow 1 ((((m=1))))&(((((m=1", 23);
        fault("slow 1 !!!!!m=1", 11);
        fault("slow 1 !(!(!m=1))", 11);
        fault("slow 1 ((((!m=1", 11);
        fault("slow 1 !!!(m=1|(", 15);
        fault("gap", 3);
        fault("gap ", 4);
        fault("gap 1 ", 5);
        fault("gap 1;;", 6);
        fault(";gap 1", 0);
        fault("tire 100", 7);
        fault("time 1", 2);
        fault("long 1,", 6);
        fault("lonG 1", 3);
        fault("gap 1;gap 1;gap 1;gap 1;gap 1;gap 1;gap 1;gap 1;gap 1;gap 1;", 59);
        fault("gap 1;gap 1;gap 1;gap 1;gap 1;gap 1;gap 1;gap 1;gap 1;gap 1 ;", 59);
        NineMowers x = new NineMowers();
        for (int i = 0; i < 20; i++) {
            Due.feed(x, "gap 1");
        }
        due("a text of 100", x.field(), -15);
        due("10 CLAUSES", Due.field(x, "gap 1;gap 1;gap 1;gap 1;gap 1;gap 1;gap 1;gap 1;gap 1;gap 8"), 0);
        due("the last GAP", x.told(1), 8);
        due("the tenth CLAUSE is fast", with("gap 1;gap 1;gap 1;gap 1;gap 1;gap 1;gap 1;gap 1;gap 1;fast 8 m=0", MOWER, 0)
            .of(0, 7), 14);
        due("4 within each other", Due.field(x, "slow 1 !!!!m=1;fast 12 ((((k=10))));slow 3 !(!(m=1)|t<99)&!!!!d>1"), 1);
    }

    private static void fault(String text, int place) {
        NineMowers x = new NineMowers();
        due("FAULT of " + text, Due.field(x, text), -10 - place);
    }

    // Promises 3, 8: what a field's tests ask
    private static void tests() {
        asks("m=1", 0, 5, 0);
        asks("m<1", 5, 0, 0);
        asks("m>1", 0, 0, 5);
        asks("k=3", 0, 5, 0);
        asks("k>3", 0, 0, 5);
        asks("p=2", 5, 0, 0);
        asks("p<1", 0, 5, 0);
        asks("e=10", 5, 5, 0);
        asks("e<4", 0, 0, 5);
        asks("t=0", 5, 0, 5);
        asks("t=1", 0, 5, 0);
        asks("t>0", 0, 5, 0);
        asks("m<0", 0, 0, 0);
        asks("m<0|m=1", 0, 5, 0);
        asks("m<0|k<0&t<0", 0, 0, 0);
        asks("d=3", 5, 5, 5);
        asks("d=13", 0, 0, 0);
        asks("m=01", 0, 5, 0);
        asks("!m=1", 5, 0, 5);
        asks("!!m=1", 0, 5, 0);
        asks("m=0|m=1&p=0", 5, 5, 0);
        asks("m=1&p=0|m=0", 5, 5, 0);
        asks("(m=0|m=1)&p=0", 0, 5, 0);
        asks("m=0&p=0|m=2&p=1", 0, 0, 5);
        asks("!m=0&m=2", 0, 0, 5);
        asks("!(m=0&m=2)", 5, 5, 5);
        asks("!(m=0|m=2)", 0, 5, 0);
        asks("m=0|(m=1|(m=2&(p=1|(m=3))))", 5, 5, 5);
        NineMowers x = with("fast 7 m=0;slow 20 m<2;fast 50 m=1;slow 2 d=0", MOWER, 0, MOWER, 0, MOWER, 0);
        due("less than 0 is 0", x.of(0, 7), 0);
        due("all together", x.of(1, 7), 34);
        due("slow alone", x.of(2, 7), 4);
        x.pause(1);
        due("MINUTE 1", x.of(2, 7), 6);
    }

    private static void tens() {
        NineMowers x = with("fast 1 t=1;fast 2 t=2;fast 3 t=9", STEADY, 0);
        int[][] tired = {{9, 6}, {10, 7}, {19, 7}, {20, 8}, {29, 8}, {30, 6}, {89, 6}, {90, 9}, {99, 9}};
        for (int[] one : tired) {
            x.set(0, 2, one[0]);
            due("PACE with TIRED " + one[0], x.of(0, 7), one[1]);
        }
    }

    /** How much faster each of three is by a field that asks so: places 2, 0, 1; MINUTE 13. */
    private static void asks(String test, int... more) {
        NineMowers x = with("fast 5 " + test, MOWER, 0, BOY, 0, PRESSED, 0);
        x.place(0, 2);
        x.pause(13);
        x.set(2, 1, 3);
        x.set(0, 2, 9);
        x.set(1, 2, 19);
        for (int m = 0; m < 3; m++) {
            due("PACE by " + test + " of " + m, x.of(m, 7), 6 + more[m]);
        }
    }

    // Promise 9
    private static void told() {
        NineMowers x = with("gap 7;long 33;gap 0;tire 99;tire 12;long 44", MOWER, 0, MOWER, 0);
        due("GAP", x.told(1), 0);
        due("TIRE", x.told(2), 12);
        due("LENGTH", x.told(3), 44);
        due("first", x.told(10), 0);
        due("second", x.told(11), 1);
        due("third", x.told(12), NONE);
        due("told 4", x.told(4), NONE);
        due("told 9", x.told(9), NONE);
        due("told -1", x.told(-1), NONE);
        due("told far", x.told(Integer.MAX_VALUE), NONE);
        due("a field without", Due.field(x, "fast 1 m=0"), 1);
        due("GAP without", x.told(1), 2);
        due("TIRE without", x.told(2), 1);
        due("LENGTH without", x.told(3), 60);
        due("field long 0", Due.field(x, "long 0;tire 0"), 2);
        due("LENGTH 1 if less", x.told(3), 1);
        due("TIRE 0", x.told(2), 0);
        x.pause(7);
        due("MINUTE", x.told(0), 7);
    }

    // Promise 10
    private static void minute() {
        NineMowers x = with("tire 3;gap 4", MOWER, 0, MOWER, 0, STEADY, 0);
        due("who is held", x.minute(), 6);
        state("first", x, 0, 6, 9, 3, 0);
        state("second", x, 1, 2, 9, 3, 0);
        state("third stays", x, 2, 0, 10, 0, 0);
        due("who is held then", x.minute(), 4);
        state("second goes", x, 1, 8, 8, 6, 0);
        state("third goes", x, 2, 4, 9, 3, 0);
        due("MINUTE", x.told(0), 2);
        x.set(1, 3, 2);
        due("STOPPED is not HELD", x.minute(), 4);
        state("STOPPED", x, 1, 8, 8, 4, 1);
        state("held behind", x, 2, 4, 9, 1, 0);
        x.place(2, 0);
        due("STOPPED again; 0 is behind 1", x.minute(), 1);
        state("ahead by place", x, 2, 10, 8, 4, 0);
        state("never back", x, 0, 18, 7, 7, 0);
        due("0 is still ahead by more, 1 goes", x.minute(), 1);
        state("goes behind 0", x, 1, 14, 7, 5, 0);
        due("nobody", new NineMowers().minute(), 0);
    }

    private static void state(String who, NineMowers x, int m, int at, int edge, int tired, int stopped) {
        due(who + "'s AT", x.of(m, 2), at);
        due(who + "'s EDGE", x.of(m, 3), edge);
        due(who + "'s TIRED", x.of(m, 4), tired);
        due(who + "'s STOPPED", x.of(m, 5), stopped);
    }

    private static void minuteEdges() {
        NineMowers x = with("", MOWER, 0);
        x.set(0, 0, 9996);
        due("held by 9999", x.minute(), 1);
        state("at the end", x, 0, 9999, 9, 1, 0);
        due("held at 9999", x.minute(), 1);
        state("still there", x, 0, 9999, 9, 0, 0);
        NineMowers dull = with("tire 60", STEADY, 0);
        dull.set(0, 1, 1);
        due("dull", dull.minute(), 0);
        state("dull", dull, 0, 6, 0, 60, 0);
        due("duller", dull.minute(), 0);
        state("EDGE 0 and TIRED 99 stay", dull, 0, 9, 0, 99, 0);
        NineMowers slow = with("slow 6 m<9", MOWER, 0);
        slow.set(0, 2, 5);
        due("STRIDE 0 is not HELD", slow.minute(), 0);
        state("rests", slow, 0, 0, 10, 3, 0);
        NineMowers late = atMinute(9998, MOWER, 0);
        due("MINUTE 9998", late.minute(), 0);
        due("MINUTE 9999", late.minute(), STATE);
        due("AT stays", late.of(0, 2), 6);
        NineMowers both = with("gap 9", PRESSED, 1, MOWER, 0);
        both.set(0, 0, 11);
        due("STRIDES are by how all is ahead of the MINUTE", both.minute(), 0);
        state("pressed ahead of it", both, 0, 20, 9, 1, 0);
        state("as far as the one ahead is by then", both, 1, 6, 9, 1, 0);
    }

    // Promise 11
    private static void whet() {
        NineMowers x = with("", MOWER, 0, MOWER, 0);
        x.set(0, 1, 3);
        x.set(0, 2, 4);
        x.set(0, 3, 2);
        due("whet", x.whet(), 1);
        state("whetted", x, 0, 0, 10, 3, 1);
        state("fresh", x, 1, 0, 10, 0, 0);
        NineMowers late = atMinute(9998);
        due("whet at 9998", late.whet(), 9999);
        due("whet at 9999", late.whet(), STATE);
    }

    // Promise 12
    private static void pause() {
        NineMowers x = with("", MOWER, 0);
        x.set(0, 1, 3);
        x.set(0, 2, 50);
        x.set(0, 3, 7);
        due("pause 0", x.pause(0), BAD);
        due("pause 61", x.pause(61), BAD);
        due("pause -1", x.pause(-1), BAD);
        due("pause", x.pause(5), 5);
        state("rested", x, 0, 0, 3, 35, 2);
        due("pause 60", x.pause(60), 65);
        state("rested more", x, 0, 0, 3, 0, 0);
        NineMowers late = atMinute(9990);
        due("too late", late.pause(10), STATE);
        due("bad ahead of too late", late.pause(61), BAD);
        due("just not too late", late.pause(9), 9999);
        due("too late by 1", late.pause(1), STATE);
    }

    // Promise 13
    private static void on() {
        NineMowers x = with("gap 4", MOWER, 0, MOWER, 0, STEADY, 0);
        x.set(0, 3, 2);
        String before = Due.shown(x);
        int[] all = {0, 0, 0, 8, 24};
        int[] held = {0, 1, 2, 3, 3};
        for (int n = 0; n < 5; n++) {
            due("all AT", x.on(n, 0), all[n]);
            due("times HELD", x.on(n, 21), held[n]);
        }
        due("AT of 0", x.on(4, 10), 12);
        due("AT of 1", x.on(4, 11), 8);
        due("AT of 2", x.on(4, 12), 4);
        due("0 is STOPPED, not HELD", x.on(4, 20), 0);
        due("2 is HELD", x.on(4, 22), 4);
        Due.holds("asked only", before.equals(Due.shown(x)));
        due("on nobody's AT", x.on(61, 13), NONE);
        due("on nobody's HELD", x.on(1, 23), NONE);
        due("on what 1", x.on(1, 1), NONE);
        due("on what 9", x.on(1, 9), NONE);
        due("on what -1", x.on(1, -1), NONE);
        due("on n 61", x.on(61, 0), BAD);
        due("on n -1", x.on(-1, 10), BAD);
        NineMowers late = atMinute(9999, MOWER, 0);
        due("beyond 9999", late.on(2, 0), 12);
        due("60 MINUTES", with("", STEADY, 0).on(60, 0), 60 + 50 * 3);
    }

    // Promise 14
    private static void done() {
        due("nobody", new NineMowers().done(), 0);
        NineMowers x = with("long 36", STEADY, 0, STEADY, 0);
        due("both done", x.done(), 7);
        x.set(0, 0, 38);
        x.set(1, 0, 35);
        due("done in 1", x.done(), 1);
        x.set(1, 0, 36);
        due("done", x.done(), 0);
        x.set(1, 0, 0);
        x.set(1, 3, 99);
        due("done late", x.done(), 105);
        NineMowers just = with("slow 5 m=0;long 66;fast 1 e<1", STEADY, 0);
        just.set(0, 3, 99);
        due("not by then", just.done(), -5);
        due("MINUTE stays", just.told(0), 0);
        NineMowers last = with("slow 5 e>0;slow 4 e=0;long 20", STEADY, 0);
        last.set(0, 3, 99);
        due("99 STOPPED, 10 with an edge, 10 without", last.done(), 119);
        due("one more", Due.field(last, "slow 5 e>0;slow 4 e=0;long 21"), 1);
        due("done in 120", last.done(), 120);
        due("two more", Due.field(last, "slow 5 e>0;slow 4 e=0;long 22"), 2);
        due("not by 120", last.done(), -5);
    }

    // Promise 15
    private static void order() {
        NineMowers x = with("", BOY, 0, MOWER, 0, HASTY, 4);
        due("how much", x.order(1, -1), 10 + 6 + 3);
        due("first", x.order(1, 0), 2);
        due("second", x.order(1, 1), 1);
        due("third", x.order(1, 2), 0);
        due("there are fewer", x.order(1, 3), -5);
        x.set(0, 0, 500);
        x.set(2, 3, 1);
        due("AT of all 0, but STOPPED as it is", x.order(1, -1), 6 + 3);
        due("the first row of several", x.order(1, 0), 1);
        due("then", x.order(1, 1), 0);
        due("AT stays", x.of(0, 2), 500);
        NineMowers alike = with("", STEADY, 0, STEADY, 0, STEADY, 0, STEADY, 0, STEADY, 0);
        alike.place(4, 0);
        for (int k = 0; k < 5; k++) {
            due("alike " + k, alike.order(12, k), k);
        }
        due("k 5", x.order(0, 5), NONE);
        due("k -2", x.order(1, -2), NONE);
        due("n 0", x.order(0, 0), BAD);
        due("n 13", x.order(13, -1), BAD);
        alike.mower(0, 0);
        due("six", alike.order(3, 0), -9);
        due("six, how much", alike.order(3, -1), -9);
        due("six, bad n", alike.order(13, 0), BAD);
        due("nobody, how much", new NineMowers().order(1, -1), 0);
        due("nobody's first", new NineMowers().order(1, 0), -5);
        due("by its place", with("fast 9 m=1&p=0;fast 9 m=0&p=1", MOWER, 0, MOWER, 0).order(1, 0), 1);
    }

    // Promise 16
    private static void whets() {
        NineMowers x = with("slow 5 e<9", STEADY, 0);
        due("k", x.whets(60, 0), 3);
        due("how much", x.whets(60, 1), 40 * 6);
        due("never: 2 MINUTES", x.whets(2, 0), 3);
        due("the least of several", x.whets(1, 0), 2);
        due("in 1 MINUTE", x.whets(1, 1), 6);
        due("never", with("", STEADY, 0).whets(60, 0), whetsByHand(60)[0]);
        due("never's how much", with("", STEADY, 0).whets(60, 1), whetsByHand(60)[1]);
        due("never within 15", with("", STEADY, 0).whets(10, 0), 11);
        NineMowers slow = with("slow 6 m<9", STEADY, 0);
        due("alike", slow.whets(20, 0), 1);
        NineMowers still = with("", BOY, 0);
        due("16 is never", Due.field(still, "fast 1 e=0;slow 3 e>0"), 0);
        still.set(0, 1, 0);
        due("never whets", still.whets(60, 0), 16);
        due("never whets, how much", still.whets(60, 1), 60);
        due("what 2", x.whets(0, 2), NONE);
        due("what -1", x.whets(1, -1), NONE);
        due("n 0", x.whets(0, 0), BAD);
        due("n 61", x.whets(61, 1), BAD);
        due("nobody", new NineMowers().whets(60, 0), 1);
        due("AT stays", x.of(0, 2), 0);
        due("EDGE stays", x.of(0, 3), 10);
    }

    /** A STEADY one of PACE 6, counted without the program. */
    private static int[] whetsByHand(int n) {
        int best = 0;
        int most = -1;
        for (int k = 1; k <= 16; k++) {
            int edge = 10;
            int at = 0;
            for (int i = 1; i <= n; i++) {
                if (k < 16 && i % k == 0) {
                    edge = 10;
                } else {
                    at += edge > 0 ? 6 : 3;
                    edge = Math.max(0, edge - 1);
                }
            }
            if (at > most) {
                best = k;
                most = at;
            }
        }
        return new int[] {best, most};
    }

    // Promise 17
    private static void apart() {
        NineMowers x = with("gap 9", MOWER, 0, MOWER, 0);
        due("GAP 0 is best", x.apart(10, 0), 0);
        due("how much", x.apart(10, 1), 120);
        NineMowers press = with("", PRESSED, 0, MOWER, 0);
        press.set(0, 0, 9);
        due("pressed from GAP 7 on", press.apart(1, 0), 7);
        due("pressed, how much", press.apart(1, 1), 9 + 8 + 6);
        due("GAP stays", press.told(1), 2);
        press.set(0, 0, 11);
        due("pressed from GAP 9 on", press.apart(1, 0), 9);
        press.set(0, 0, 12);
        due("GAP 9 at most", press.apart(1, 0), 0);
        due("one alone", with("", MOWER, 0).apart(60, 0), 0);
        due("what 2", x.apart(0, 2), NONE);
        due("what -1", x.apart(1, -1), NONE);
        due("n 0", x.apart(0, 0), BAD);
        due("n 61", x.apart(61, 1), BAD);
    }

    // Promise 18
    private static void stop() {
        NineMowers x = with("", STEADY, 0, STEADY, 0, STEADY, 0);
        due("the first: 2 MINUTES less of each", x.stop(0, 2, 3, 0), (18 + 16 + 14) - (6 + 4 + 2));
        due("whom it hits", x.stop(0, 2, 3, 1), 6);
        due("the second", x.stop(1, 2, 3, 1), 4);
        due("the last", x.stop(2, 2, 3, 1), 0);
        due("the last, how much", x.stop(2, 2, 3, 0), 14 - 6);
        x.set(0, 3, 1);
        due("more than it is STOPPED already", x.stop(0, 1, 2, 0), 6 + 4 + 2);
        due("STOPPED stays", x.of(0, 5), 1);
        due("r 1, n 1", x.stop(1, 1, 1, 0), 0);
        NineMowers turned = with("", STEADY, 0, STEADY, 0);
        turned.place(1, 0);
        due("hits 0", turned.stop(1, 1, 1, 1), 1);
        due("hits 0 by 4", turned.stop(1, 1, 1, 0), 10);
        NineMowers tired = with("tire 99;slow 6 t>0", MOWER, 0);
        due("no less by", tired.stop(0, 1, 2, 0), 0);
        NineMowers better = with("slow 6 d=0;slow 6 e<10", STEADY, 0);
        due("alike", better.stop(0, 1, 2, 0), 0);
        NineMowers below = with("slow 5 d=0;slow 6 e<10", STEADY, 0);
        due("below 0", below.stop(0, 1, 2, 0), 1 - 6);
        due("nobody", x.stop(3, 0, 0, 0), -100001);
        due("what 2", x.stop(0, 1, 1, 2), -100001);
        due("what -1", x.stop(0, 1, 1, -1), -100001);
        due("r 0", x.stop(0, 0, 1, 0), -100002);
        due("r 21", x.stop(0, 21, 1, 0), -100002);
        due("n 0", x.stop(0, 1, 0, 0), -100002);
        due("n 61", x.stop(0, 20, 61, 1), -100002);
        due("r 20, n 60", with("", STEADY, 0).stop(0, 20, 60, 0), 20 * 3);
    }

    // Promise 19
    private static void alone() {
        NineMowers x = with("", MOWER, 0, MOWER, 0);
        due("less in a row", x.alone(1), -2);
        NineMowers press = with("", PRESSED, 0, PRESSED, 0);
        due("pressed in a row", press.alone(1), (8 + 6) - (6 + 6));
        NineMowers placed = with("fast 4 p=1;slow 1 p=0;gap 0", MOWER, 0, MOWER, 0);
        placed.set(0, 0, 50);
        due("at place 0", placed.alone(1), (55 + 10) - (55 + 5));
        due("THE ROW stays", placed.told(11), 1);
        due("n 0", x.alone(0), -100002);
        due("n 61", x.alone(61), -100002);
        due("one", with("", HASTY, 3).alone(60), 0);
        due("nobody", new NineMowers().alone(60), 0);
    }

    // Promise 20
    private static void rest() {
        NineMowers x = with("", MOWER, 0, MOWER, 0);
        due("by nobody", x.rest(10, 0), -5);
        due("by nobody, how much", x.rest(10, 1), -5);
        NineMowers late = with("slow 5 d<5&m<3;slow 6 e<10", STEADY, 0, STEADY, 0, STEADY, 0, STEADY, 0);
        due("STOPPED for 5: 6 in place of 1, ahead of those who need the room", late.rest(6, 0), restByHand(late, 6)[0]);
        due("how much", late.rest(6, 1), restByHand(late, 6)[1]);
        NineMowers two = with("slow 5 d<5;slow 6 e<10;gap 0", STEADY, 0, STEADY, 0);
        two.set(0, 0, 40);
        two.set(1, 0, 20);
        due("the least number", two.rest(6, 0), 0);
        due("all AT then", two.rest(6, 1), 46 + 21);
        due("STOPPED stays", two.of(0, 5), 0);
        NineMowers last = with("slow 5 d<5&m=2;slow 6 e<10&m=2", STEADY, 0, STEADY, 0, STEADY, 0);
        due("the last one", last.rest(60, 0), 2);
        due("the last one, how much", last.rest(60, 1), restedLast(last));
        two.place(1, 0);
        due("the least number, not place", two.rest(5, 0), -5);
        due("what 2", x.rest(0, 2), NONE);
        due("what -1", x.rest(1, -1), NONE);
        due("n 0", x.rest(0, 0), BAD);
        due("n 61", x.rest(61, 1), BAD);
        due("nobody", new NineMowers().rest(1, 0), -5);
    }

    /** All AT behind 60 MINUTES with the last one STOPPED for 5, played out on the object. */
    private static int restedLast(NineMowers x) {
        x.image();
        x.set(2, 3, 5);
        minutes(x, 60);
        int all = x.of(0, 2) + x.of(1, 2) + x.of(2, 2);
        x.undo();
        return all;
    }

    private static int[] restByHand(NineMowers x, int n) {
        int best = -5;
        int most = x.on(n, 0);
        x.image();
        for (int m = 0; m < x.count(0); m++) {
            x.set(m, 3, x.of(m, 5) + 5);
            int all = x.on(n, 0);
            if (all > most) {
                best = m;
                most = all;
            }
            x.undo();
        }
        return new int[] {best, best < 0 ? -5 : most};
    }

    // Promise 21
    private static void paused() {
        NineMowers x = with("", MOWER, 0);
        due("fresh: none the better", x.paused(10, 0), 0);
        due("how much", x.paused(10, 1), 60);
        x.set(0, 2, 18);
        due("before TIRED takes a step", x.paused(3, 0), 0);
        due("before it, how much", x.paused(3, 1), 18);
        x.set(0, 2, 20);
        NineMowers late = with("fast 9 d<2", STEADY, 0);
        due("1 MINUTE", late.paused(1, 1), 15);
        due("first both fast MINUTES", late.paused(3, 0), 2);
        due("first both, how much", late.paused(3, 1), 15 + 15 + 6);
        NineMowers end = with("fast 9 d<3", STEADY, 0);
        due("behind the last", end.paused(2, 0), 2);
        due("PAUSE is of 5", with("fast 9 d>4&d<7", STEADY, 0).paused(2, 1), 30);
        due("MINUTE stays", end.told(0), 0);
        due("what 2", x.paused(0, 2), NONE);
        due("what -1", x.paused(1, -1), NONE);
        due("n 0", x.paused(0, 0), BAD);
        due("n 31", x.paused(31, 1), BAD);
        due("nobody", new NineMowers().paused(30, 0), 0);
    }

    // Promise 22
    private static void see() {
        NineMowers x = with("", MOWER, 0);
        due("at 10000", x.see(0, 0, 10000), BAD);
        due("at -1", x.see(0, 0, -1), BAD);
        due("n 31", x.see(0, 31, 0), BAD);
        due("n -1", x.see(0, -1, 0), BAD);
        due("nobody", x.see(1, 31, 0), NONE);
        due("mower -2", x.see(-2, 0, 0), NONE);
        for (int i = 1; i <= 6; i++) {
            due("see", x.see(0, 5 * i, 9999), i);
        }
        due("see full", x.see(0, 0, 0), FULL);
        due("bad ahead of full", x.see(0, 31, 0), BAD);
        due("count", x.count(2), 6);
        due("none then", x.see(-1, 99, 99999), 0);
        due("count then", x.count(2), 0);
        due("see again", x.see(0, 30, 0), 1);
        due("none of nobody", new NineMowers().see(-1, 0, 0), 0);
    }

    // Promise 23
    private static void who() {
        NineMowers x = with("", STEADY, 0, STEADY, 0, STEADY, 0);
        due("nothing SEEN", x.who(), 7);
        due("nobody", new NineMowers().who(), 0);
        x.see(0, 1, 6);
        due("0 went on", x.who(), 6);
        x.see(2, 1, 0);
        due("2 stayed", x.who(), 6);
        x.see(1, 2, 10);
        due("1 went on", x.who(), 4);
        x.see(2, 4, 6);
        due("and 2 goes then", x.who(), 4);
        x.see(2, 0, 1);
        due("otherwise now", x.who(), 0);
        x.see(-1, 0, 0);
        x.see(0, 0, 0);
        x.see(0, 3, 0);
        x.see(0, 4, 6);
        due("STOPPED for 3", x.who(), 1);
        x.minute();
        due("from now", x.who(), 0);
        NineMowers late = with("", STEADY, 0);
        late.see(0, 30, 27 * 3 + 30);
        due("behind 30", late.who(), 1);
        late.see(-1, 0, 0);
        late.see(0, 30, 27 * 3 + 31);
        due("otherwise behind 30", late.who(), 0);
        due("STOPPED stays", late.of(0, 5), 0);
    }

    // Promise 24
    private static void odds() {
        NineMowers x = with("gap 0", STEADY, 0, STEADY, 0, STEADY, 0, BOY, 0);
        fraction(x, 0, 5, 0, 1);
        fraction(x, 1, 5, 1, 4);
        fraction(x, 2, 5, 1, 2);
        fraction(x, 3, 1, 3, 4);
        due("below the line is part 1", x.odds(2, 5, 1), 2);
        due("STOPPED stays", x.of(1, 5), 0);
        due("nobody", x.odds(4, 1, 0), NO);
        due("-1", x.odds(-1, 1, 0), NO);
        due("n 0", x.odds(0, 0, 0), NO);
        due("n 61", x.odds(0, 61, 0), NO);
        due("part 2", x.odds(0, 1, 2), NO);
        due("part -1", x.odds(0, 1, -1), NO);
        fraction(with("", STEADY, 0, STEADY, 0), 1, 4, 1, 2);
        fraction(with("", STEADY, 0, STEADY, 0), 1, 60, 1, 2);
        // Nobody goes on before MINUTE 5, or 4: so it tells whether 0 is STOPPED for 5, not more, not less.
        fraction(with("gap 0;slow 6 d<5;slow 5 m=1", STEADY, 0, STEADY, 0), 1, 6, 0, 1);
        fraction(with("gap 0;slow 6 d<4;slow 5 m=1", STEADY, 0, STEADY, 0), 1, 5, 1, 2);
        NineMowers always = with("gap 9", STEADY, 0, STEADY, 0);
        fraction(always, 1, 1, 1, 2);
        always.set(0, 3, 99);
        fraction(always, 1, 7, 1, 1);
    }

    private static void fraction(NineMowers x, int mower, int n, int above, int below) {
        due("ODDS of " + mower + ", above", x.odds(mower, n, 0), above);
        due("ODDS of " + mower + ", below", x.odds(mower, n, 1), below);
    }

    // Promise 25
    private static void mean() {
        NineMowers x = with("", STEADY, 0, STEADY, 0, STEADY, 0, STEADY, 0);
        due("above", x.mean(1, 0), 3);
        due("below", x.mean(1, 1), 1);
        due("above, 2 MINUTES", x.mean(2, 0), 9);
        x.set(3, 3, 2);
        due("half above", x.mean(2, 0), 15);
        due("half below", x.mean(2, 1), 2);
        due("part 2", x.mean(1, 2), NO);
        due("part -1", x.mean(1, -1), NO);
        due("n 0", x.mean(0, 0), NO);
        due("n 61", x.mean(61, 0), NO);
        due("nobody", new NineMowers().mean(1, 0), NO);
        NineMowers one = with("", STEADY, 0);
        due("one above", one.mean(60, 0), 210);
        due("one below", one.mean(60, 1), 1);
        NineMowers still = with("slow 6 m<9", MOWER, 0, MOWER, 0);
        due("none above", still.mean(60, 0), 0);
        due("none below", still.mean(60, 1), 1);
        due("MINUTE stays", x.told(0), 0);
    }

    // Promise 26
    private static void plan() {
        NineMowers x = new NineMowers();
        due("what 3", x.plan(3), NONE);
        due("what -2", x.plan(-2), NONE);
        for (int i = 1; i <= 10; i++) {
            due("plan", x.plan(i % 3), i);
        }
        due("plan full", x.plan(0), FULL);
        due("none ahead of full", x.plan(3), NONE);
        due("count", x.count(3), 10);
        due("empty then", x.plan(-1), 0);
        due("count then", x.count(3), 0);
        due("plan again", x.plan(2), 1);
    }

    // Promise 27
    private static void planned() {
        NineMowers x = with("slow 5 e<9;fast 1 d>3", STEADY, 0);
        due("no PLAN", x.planned(), 0);
        x.plan(0);
        x.plan(0);
        due("two MINUTES", x.planned(), 12);
        x.plan(0);
        due("dull", x.planned(), 13);
        x.plan(1);
        due("whetting", x.planned(), 13);
        x.plan(0);
        due("whetted, MINUTE 4", x.planned(), 20);
        x.set(0, 3, 1);
        due("STOPPED 1", x.planned(), 6 + 6 + 7);
        due("AT stays", x.of(0, 2), 0);
        x.plan(-1);
        x.set(0, 3, 2);
        x.plan(2);
        x.plan(2);
        due("PAUSES", x.planned(), 0);
        x.plan(0);
        due("PAUSES of 1 each", x.planned(), 6);
        due("nobody", new NineMowers().planned(), 0);
    }

    // Promise 28
    private static void book() {
        NineMowers x = with("", MOWER, 0, MOWER, 0);
        due("nobody", x.book(2), NONE);
        due("-2", x.book(-2), NONE);
        for (int i = 1; i <= 8; i++) {
            due("book", x.book(i % 2), i);
        }
        due("book full", x.book(0), FULL);
        due("none ahead of full", x.book(2), NONE);
        due("count", x.count(4), 8);
        due("empty then", x.book(-1), 0);
        due("count then", x.count(4), 0);
        due("book again", x.book(1), 1);
    }

    // Promise 29
    private static void looked() {
        NineMowers x = with("", STEADY, 0, STEADY, 0, STEADY, 0);
        due("no BOOK", x.looked(), -5);
        x.book(1);
        x.book(2);
        due("both are HELD", x.looked(), -5);
        x.book(0);
        due("0 is not", x.looked(), 0);
        x.set(2, 3, 1);
        due("STOPPED is not HELD", x.looked(), 2);
        x.minute();
        due("as all is then", x.looked(), 1);
        due("MINUTE stays", x.told(0), 1);
    }

    // Promise 30
    private static void judge() {
        NineMowers x = with("", MOWER, 0, MOWER, 0, MOWER, 0);
        due("tape -1", x.judge(-1, 0), NONE);
        due("tape 6", x.judge(6, 0), NONE);
        due("holds nothing", x.judge(0, 0), 100);
        int[] sorts = {0, 2, 3, 4};
        for (int sort : sorts) {
            x.tape(0, sort, 9);
            due("no shorts", x.judge(0, 0), -12);
        }
        x.tape(1, 1, 4);
        due("all 0", x.judge(1, 0), -5);
        due("all 0, from 1 on", x.judge(1, 1), -5);
        due("ends ahead", x.judge(1, 2), 102);
        due("ends at once", x.judge(1, 4), 100);
        due("far", x.judge(1, Integer.MAX_VALUE), 100);
        due("below 0", x.judge(1, -1), 100);
        due("far below 0", x.judge(1, Integer.MIN_VALUE), 100);
        x.minute();
        x.item(1, 1, 6);
        due("first is as told", x.judge(1, 1), 1);
        x.item(1, 2, 4);
        x.item(1, 3, 2);
        due("all as told", x.judge(1, 1), -5);
        due("first is otherwise", x.judge(1, 0), 0);
        x.item(1, 3, 3);
        due("last is otherwise", x.judge(1, 1), 2);
        NineMowers nobody = new NineMowers();
        due("there is none to look at", nobody.judge(0, 0), -5);
        nobody.tape(0, 0, 1);
        due("no shorts, nobody", nobody.judge(0, 0), -12);
    }

    // Promise 31
    private static void image() {
        NineMowers x = with("", MOWER, 0, MOWER, 0);
        due("image", x.image(), 2);
        x.mower(3, 0);
        due("image again", x.image(), 3);
        x.mower(3, 0);
        due("the newer one", x.undo(), 3);
        due("of nobody", new NineMowers().image(), 0);
    }

    // Promise 32
    private static void undo() {
        NineMowers x = with("gap 5", TOLD, 3, MOWER, 1);
        due("none", x.undo(), STATE);
        fills(x);
        String before = Due.shown(x);
        int planned = x.planned();
        int who = x.who();
        int looked = x.looked();
        x.image();
        changes(x);
        due("undo", x.undo(), 2);
        due("TRACE is not in it", x.count(6), 1);
        due("FIELDS are not in it", x.count(1), 2);
        due("TEXT is not in it", x.count(5), 1);
        due("TAPES are not in it", x.read(0, 0), 9);
        due("text goes on", x.field(), -10 - 0);
        x.act(9, 0, 0);
        due("PLANNED", x.planned(), planned);
        due("WHO", x.who(), who);
        due("LOOKED", x.looked(), looked);
        due("ROW", x.row(0, 1, 8), 8);
        Due.holds("as it was", before.replaceFirst("2 1 2 2 1 0 0 ", "2 2 2 2 1 0 0 ").equals(Due.shown(x)));
        changes(x);
        due("undo again", x.undo(), 2);
        due("which FIELD holds", x.told(1), 5);
        x.field();
        due("the newest holds", Due.field(x, "gap 8"), 3);
        due("GAP", x.told(1), 8);
        NineMowers empty = new NineMowers();
        empty.image();
        empty.mower(TOLD, 0);
        empty.row(0, 0, 9);
        Due.field(empty, "gap 9");
        due("nobody then", empty.undo(), 0);
        due("no FIELD then", empty.told(1), 2);
        empty.mower(TOLD, 0);
        due("a new one's ROW is 0", empty.row(0, 0, 1), 0);
    }

    private static void fills(NineMowers x) {
        x.place(1, 0);
        x.row(0, 1, 8);
        x.set(1, 0, 50);
        x.set(0, 1, 4);
        x.set(0, 2, 44);
        x.set(1, 3, 3);
        x.see(0, 3, 4);
        x.see(1, 3, 4);
        x.plan(0);
        x.plan(2);
        x.book(1);
    }

    private static void changes(NineMowers x) {
        x.mower(2, 2);
        minutes(x, 3);
        x.whet();
        x.place(0, 0);
        x.row(0, 1, 1);
        Due.field(x, "gap 7");
        x.see(-1, 0, 0);
        x.plan(1);
        x.book(-1);
        x.act(1, 0, 0);
        x.tape(0, 0, 1);
        x.item(0, 0, 9);
        x.feed('x');
    }

    // Promise 33
    private static void act() {
        NineMowers x = with("", MOWER, 1, STEADY, 2, HASTY, 3, BOY, 4, OLD, 5, PRESSED, 6);
        acts(x, 0, 7, 7, 6, 12);
        acts(x, 1, 7, 8, (8 - 2) ^ 6, ((8 - 2) ^ 6) * 2);
        acts(x, 2, 7, 23, 23 - 3, 40);
        acts(x, 3, 7, 10, 6, 12 + (4 - 4));
        acts(x, 4, 7, -11, (-12 - 5) ^ 6, ((-12 - 5) ^ 6) * 2);
        acts(x, 5, 7, 26, 20, ((2 * 3 + 5) - 6) * 2);
        NineMowers told = with("", TOLD, 9);
        int whets = (7 ^ 9) - 9 + 2;
        int whetsOne = (1 ^ 9) - 9 + 2;
        acts(told, 0, 7, 7 ^ 9, whets, whets * 2 + whetsOne);
        due("wrapping", x.act(0, 2, Integer.MAX_VALUE), (Integer.MAX_VALUE - 1) * 2);
        due("wrapping times 3", x.act(2, 0, Integer.MAX_VALUE), Integer.MAX_VALUE * 3 + 2);
        due("nobody", x.act(6, 0, 5), 0);
        due("-1", x.act(-1, 0, 5), 0);
        due("act 3", x.act(0, 3, 5), 0);
        due("act -1", x.act(0, -1, 5), 0);
        x.place(3, 0);
        due("i is the number, not the place", x.act(3, 0, 7), 10);
    }

    private static void acts(NineMowers x, int m, int v, int mows, int whets, int tells) {
        due(m + " mows", x.act(m, 0, v), mows);
        due(m + " whets", x.act(m, 1, v), whets);
        due(m + " tells", x.act(m, 2, v), tells);
    }

    // Promise 34
    private static void trace() {
        NineMowers x = with("", MOWER, 1, STEADY, 2, HASTY, 3, BOY, 4, OLD, 5, PRESSED, 6);
        traces(x, 0, 0, 10);
        traces(x, 0, 1, 11, 10);
        traces(x, 0, 2, 12, 11, 10);
        traces(x, 1, 2, 12, 20, 11, 10);
        traces(x, 2, 2, 12, 11, 30, 10);
        traces(x, 3, 1, 11, 10);
        traces(x, 3, 2, 40, 12, 11, 10, 11, 10);
        traces(x, 4, 0, 50, 10);
        traces(x, 4, 2, 12, 51, 20, 11, 50, 10);
        traces(x, 5, 2, 60, 12, 11, 30, 10);
        NineMowers told = with("", TOLD, 9);
        traces(told, 0, 0, 71, 10);
        traces(told, 0, 1, 70, 11, 71, 10, 10);
        traces(told, 0, 2, 40, 12, 70, 11, 71, 10, 10, 70, 11, 71, 10, 10);
        told.undo();
        due("the latest act's", told.trace(0), 40);
        told.act(0, 3, 1);
        due("no TRACE then", told.trace(0), NONE);
        due("none ran", told.count(6), 0);
        told.act(0, 0, 1);
        told.act(1, 0, 1);
        due("no TRACE of nobody", told.trace(0), NONE);
    }

    private static void traces(NineMowers x, int m, int act, int... bodies) {
        x.act(m, act, 3);
        due("bodies", x.count(6), bodies.length);
        for (int i = 0; i < bodies.length; i++) {
            due("TRACE of " + m + ", " + act + " at " + i, x.trace(i), bodies[i]);
        }
        due("TRACE ends", x.trace(bodies.length), NONE);
        due("TRACE -1", x.trace(-1), NONE);
    }

    // Promise 35
    private static void taken() {
        NineMowers x = with("", MOWER, 0, STEADY, 0, HASTY, 0, BOY, 0, OLD, 0, PRESSED, 0);
        String[] under = {"0", "01", "02", "03", "014", "025"};
        for (int m = 0; m < 6; m++) {
            for (int k = 0; k <= 6; k++) {
                due("taken " + m + " for " + k, x.taken(m, k), under[m].indexOf('0' + k) >= 0 ? m : -12);
            }
        }
        NineMowers told = with("", TOLD, 0);
        due("TOLD for MOWER", told.taken(0, 0), 6);
        due("TOLD for BOY", told.taken(0, 3), 6);
        due("TOLD for TOLD", told.taken(0, 6), 6);
        due("TOLD for HASTY", told.taken(0, 2), -12);
        due("k 7", told.taken(5, 7), BAD);
        due("k -1", told.taken(5, -1), BAD);
        due("nobody", told.taken(1, 0), -11);
        due("-1", told.taken(-1, 6), -11);
    }

    // Promise 36
    private static void count() {
        NineMowers x = with("gap 1", MOWER, 0, BOY, 0);
        Due.field(x, "gap 2");
        Due.field(x, "gap x");
        x.see(0, 1, 1);
        for (int i = 0; i < 4; i++) {
            x.plan(0);
            x.book(1);
        }
        x.book(0);
        Due.feed(x, "longer");
        x.act(1, 2, 1);
        int[] counts = {2, 2, 1, 4, 5, 6, 6};
        for (int what = 0; what <= 6; what++) {
            due("count " + what, x.count(what), counts[what]);
        }
        due("count 7", x.count(7), BAD);
        due("count -1", x.count(-1), BAD);
    }

    // Promise 37
    private static void tape() {
        NineMowers x = new NineMowers();
        due("tape -1", x.tape(-1, 9, -1), NONE);
        due("tape 6", x.tape(6, 0, 0), NONE);
        due("sort 5", x.tape(0, 5, -1), BAD);
        due("sort -2", x.tape(0, -2, 0), BAD);
        due("n 61", x.tape(0, 0, 61), BAD);
        due("size", x.tape(0, 4, -1), -14);
        due("still nothing", x.item(0, 0, 1), -11);
        due("n 0", x.tape(0, 0, 0), 1);
        due("no place", x.item(0, 0, 1), -13);
        due("n 60", x.tape(5, 3, 60), 1);
        due("last", x.item(5, 59, 7), 1);
        due("behind the last", x.item(5, 60, 7), -13);
        due("anew", x.tape(5, 2, 60), 1);
        due("all 0", x.read(5, 59), 0);
        due("nothing", x.tape(5, -1, -99), 1);
        due("nothing there", x.read(5, 0), NO);
        due("sort -1, n above", x.tape(5, -1, 61), 1);
    }

    // Promise 38
    private static void item() {
        NineMowers x = new NineMowers();
        long[][] items = {
            {127, 127, 128, -128, 511, -1, 256, 0},
            {32767, 32767, 32768, -32768, 65536, 0, -32769, 32767},
            {Integer.MAX_VALUE, Integer.MAX_VALUE, 1L << 31, Integer.MIN_VALUE, 1L << 32, 0, -1, -1},
            {NO, NO, Long.MAX_VALUE, Long.MAX_VALUE, -1, -1, 0, 0},
            {256, 1, 1L << 40, 1, 0, 0, -1, 1},
        };
        for (int sort = 0; sort < 5; sort++) {
            x.tape(1, sort, 3);
            for (int i = 0; i < 8; i += 2) {
                due("item", x.item(1, 2, items[sort][i]), 1);
                due("of sort " + sort, x.read(1, 2), items[sort][i + 1]);
            }
            due("another item", x.read(1, 1), 0);
        }
        due("tape -1", x.item(-1, 0, 0), NONE);
        due("tape 6", x.item(6, 0, 0), NONE);
        due("nothing", x.item(0, -1, 0), -11);
        due("place 3", x.item(1, 3, 0), -13);
        due("place -1", x.item(1, -1, 0), -13);
    }

    // Promise 39
    private static void read() {
        NineMowers x = new NineMowers();
        x.tape(2, 1, 2);
        x.item(2, 1, -5);
        due("read", x.read(2, 1), -5);
        due("read 0", x.read(2, 0), 0);
        due("place 2", x.read(2, 2), NO);
        due("place -1", x.read(2, -1), NO);
        due("nothing there", x.read(1, 0), NO);
        due("tape 6", x.read(6, 0), NO);
        due("tape -1", x.read(-1, 0), NO);
    }

    // Promise 40
    private static void shift() {
        NineMowers x = new NineMowers();
        x.tape(0, 2, 5);
        x.tape(1, 2, 3);
        x.tape(2, 3, 5);
        for (int i = 0; i < 5; i++) {
            x.item(0, i, i + 1);
        }
        due("to another", x.shift(0, 2, 1, 0, 3), 3);
        items(x, 1, 3, 4, 5);
        due("onward", x.shift(0, 0, 0, 1, 4), 4);
        items(x, 0, 1, 1, 2, 3, 4);
        due("back", x.shift(0, 1, 0, 0, 4), 4);
        items(x, 0, 1, 2, 3, 4, 4);
        due("none at the end", x.shift(0, 5, 1, 3, 0), 0);
        due("none behind the end", x.shift(0, 6, 1, 0, 0), -13);
        due("n below", x.shift(0, 0, 1, 0, -1), -13);
        due("i below", x.shift(0, -1, 1, 0, 1), -13);
        due("j below", x.shift(0, 0, 1, -1, 1), -13);
        due("beyond the first's end", x.shift(1, 1, 0, 0, 3), -13);
        due("beyond the other's end", x.shift(0, 0, 1, 1, 3), -13);
        due("far", x.shift(0, Integer.MAX_VALUE, 1, Integer.MAX_VALUE, Integer.MAX_VALUE), -13);
        due("far n", x.shift(0, 1, 1, 0, Integer.MAX_VALUE), -13);
        items(x, 1, 3, 4, 5);
        due("unlike sorts", x.shift(0, -1, 2, 0, 1), -12);
        due("nothing there", x.shift(0, -1, 3, 0, 1), -11);
        due("nothing here", x.shift(3, 0, 0, 0, 1), -11);
        due("tape 6", x.shift(6, 0, 0, 0, 1), NONE);
        due("other -1", x.shift(3, 0, -1, 0, 1), NONE);
    }

    private static void items(NineMowers x, int tape, int... due) {
        for (int i = 0; i < due.length; i++) {
            due("item " + i + " of " + tape, x.read(tape, i), due[i]);
        }
    }
}
