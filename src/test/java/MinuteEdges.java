/** The edges that the terms name of STRIDES, MINUTES, WHETTING and PAUSES. */
final class MinuteEdges {
    private static final int MOWER = 0, STEADY = 1, HASTY = 2, BOY = 3, OLD = 4, PRESSED = 5, TOLD = 6;

    private MinuteEdges() {
    }

    static void all() {
        strides();
        pressed();
        told();
        dull();
        stridesFirst();
        stopped();
        far();
        held();
        worn();
        others();
        whetting();
        pause();
    }

    private static void due(String call, long got, long want) {
        Document.due(call, got, want);
    }

    private static void puts(NineMowers x, int m, int at, int edge, int tired, int stopped) {
        x.set(m, 0, at);
        x.set(m, 1, edge);
        x.set(m, 2, tired);
        x.set(m, 3, stopped);
    }

    private static void is(String how, NineMowers x, int m, int at, int edge, int tired, int stopped) {
        due(how + ": AT of " + m, x.of(m, 2), at);
        due(how + ": EDGE of " + m, x.of(m, 3), edge);
        due(how + ": TIRED of " + m, x.of(m, 4), tired);
        due(how + ": STOPPED of " + m, x.of(m, 5), stopped);
    }

    private static NineMowers ofPace(int pace, int kind, int v) {
        String text = pace == 6 ? "" : pace > 6 ? "fast " + (pace - 6) + " m=0" : "slow " + (6 - pace) + " m=0";
        return Due.with(text, kind, v);
    }

    private static void stride(int kind, int v, int pace, int edge, int tired, int want) {
        NineMowers x = ofPace(pace, kind, v);
        puts(x, 0, 0, edge, tired, 0);
        due("PACE", x.of(0, 7), pace);
        due("v " + v + ", PACE " + pace + ", EDGE " + edge + ", TIRED " + tired, x.of(0, 8), want);
        x.minute();
        due("and goes so far", x.of(0, 2), want);
    }

    private static void strides() {
        Document.says("STRIDE of a MOWER: by KIND: MOWER: PACE less TIRED by 20 (cut), 0 at least.");
        int[][] tired = {{0, 6}, {1, 6}, {19, 6}, {20, 5}, {39, 5}, {40, 4}, {59, 4}, {60, 3}, {79, 3}, {80, 2}, {99, 2}};
        for (int[] one : tired) {
            stride(MOWER, 0, 6, 10, one[0], one[1]);
            stride(MOWER, 9, 6, 1, one[0], one[1]);
            stride(STEADY, 9, 6, 10, one[0], 6);
        }
        stride(MOWER, 0, 5, 10, 99, 1);
        stride(MOWER, 0, 4, 10, 99, 0);
        stride(MOWER, 0, 3, 10, 99, 0);
        stride(MOWER, 0, 0, 10, 99, 0);
        stride(MOWER, 9, 0, 10, 0, 0);
        Document.says("STEADY: PACE, whatever TIRED is.");
        stride(STEADY, 0, 6, 10, 99, 6);
        stride(STEADY, 9, 1, 1, 99, 1);
        stride(STEADY, 9, 0, 10, 99, 0);
        Document.says("HASTY: as MOWER, and v more, if EDGE is above 5.");
        stride(HASTY, 4, 6, 10, 0, 10);
        stride(HASTY, 4, 6, 6, 0, 10);
        stride(HASTY, 4, 6, 5, 0, 6);
        stride(HASTY, 4, 6, 1, 0, 6);
        stride(HASTY, 0, 6, 10, 0, 6);
        stride(HASTY, 9, 6, 6, 0, 15);
        stride(HASTY, 4, 6, 6, 20, 9);
        stride(HASTY, 4, 6, 5, 99, 2);
        stride(HASTY, 4, 3, 6, 99, 4);
        stride(HASTY, 4, 0, 6, 0, 4);
        Document.says("BOY: the half of MOWER's (cut).");
        stride(BOY, 9, 6, 10, 0, 3);
        stride(BOY, 9, 7, 10, 0, 3);
        stride(BOY, 9, 1, 10, 0, 0);
        stride(BOY, 9, 0, 10, 0, 0);
        stride(BOY, 9, 6, 10, 19, 3);
        stride(BOY, 9, 6, 10, 20, 2);
        stride(BOY, 9, 6, 10, 40, 2);
        stride(BOY, 9, 6, 10, 60, 1);
        stride(BOY, 9, 3, 10, 99, 0);
        Document.says("OLD: as STEADY, but less v by 3 (cut), 0 at least.");
        int[] byV = {6, 6, 6, 5, 5, 5, 4, 4, 4, 3};
        for (int v = 0; v <= 9; v++) {
            stride(OLD, v, 6, 10, 0, byV[v]);
            stride(OLD, v, 6, 10, 99, byV[v]);
        }
        stride(OLD, 9, 4, 10, 0, 1);
        stride(OLD, 9, 3, 10, 0, 0);
        stride(OLD, 9, 2, 10, 0, 0);
        stride(OLD, 9, 0, 10, 0, 0);
        stride(OLD, 3, 0, 10, 0, 0);
    }

    private static void pressed() {
        Document.says("PRESSED: as HASTY, and 2 more, if the next one behind in THE ROW is behind by less than GAP and 3.");
        stride(PRESSED, 4, 6, 6, 0, 10);
        stride(PRESSED, 4, 6, 5, 0, 6);
        stride(PRESSED, 4, 6, 6, 20, 9);
        for (int gap : new int[] {0, 1, 2, 9, 99}) {
            NineMowers x = Due.with("gap " + gap, PRESSED, 4, STEADY, 0);
            x.set(1, 0, 20);
            x.set(0, 0, 20 + gap + 2);
            due("behind by GAP and 2", x.of(0, 8), 12);
            x.set(0, 0, 20 + gap + 3);
            due("behind by GAP and 3", x.of(0, 8), 10);
            x.set(0, 0, 20);
            due("behind by 0", x.of(0, 8), 12);
            x.set(0, 0, 0);
            due("behind by less than 0", x.of(0, 8), 12);
        }
        NineMowers x = Due.with("", PRESSED, 0, STEADY, 0, STEADY, 0);
        due("without a FIELD, by 0", x.of(0, 8), 8);
        x.set(0, 0, 4);
        due("without a FIELD, by 4", x.of(0, 8), 8);
        x.set(0, 0, 5);
        due("without a FIELD, by 5", x.of(0, 8), 6);
        x.set(2, 0, 5);
        due("the one behind the next one does not count", x.of(0, 8), 6);
        x.place(0, 1);
        due("the next one behind by 0", x.of(0, 8), 8);
        x.place(0, 2);
        due("the last one", x.of(0, 8), 6);
        x.place(0, 0);
        x.set(1, 3, 9);
        x.set(1, 0, 1);
        due("a STOPPED one presses too", x.of(0, 8), 8);
    }

    private static void told() {
        Document.says("TOLD: as BOY, and its ROW (four numbers 0 .. 9; 0 at first) at MINUTE modulo 4 more.");
        stride(TOLD, 9, 7, 10, 0, 3);
        NineMowers x = Due.with("", TOLD, 0, TOLD, 0);
        int[] row = {9, 0, 4, 7};
        for (int part = 0; part < 4; part++) {
            due("0 at first", x.row(0, part, row[part]), 0);
        }
        for (int minute = 0; minute < 9; minute++) {
            due("MINUTE " + minute, x.of(0, 8), 3 + row[minute % 4]);
            due("another one's ROW", x.of(1, 8), 3);
            x.pause(1);
        }
        due("below 0", x.row(0, 0, -1), -2);
        due("above 9", x.row(0, 0, 10), -2);
        due("stays", x.row(0, 0, 9), 9);
        x.set(0, 2, 40);
        due("tired: (6 - 2) by 2, MINUTE 9", x.of(0, 8), 2);
    }

    private static void dull() {
        Document.says("If EDGE is 0, the half of that (cut).");
        stride(MOWER, 0, 7, 0, 0, 3);
        stride(MOWER, 0, 7, 1, 0, 7);
        stride(MOWER, 0, 1, 0, 0, 0);
        stride(MOWER, 0, 0, 0, 0, 0);
        stride(MOWER, 0, 7, 0, 40, 2);
        stride(STEADY, 0, 7, 0, 99, 3);
        stride(HASTY, 9, 7, 0, 0, 3);
        stride(BOY, 0, 7, 0, 0, 1);
        stride(BOY, 0, 6, 0, 0, 1);
        stride(BOY, 0, 3, 0, 0, 0);
        stride(OLD, 3, 6, 0, 0, 2);
        stride(OLD, 9, 3, 0, 0, 0);
        NineMowers x = Due.with("slow 1 m=0", PRESSED, 9, MOWER, 0);
        x.set(0, 1, 0);
        due("PRESSED: (5 + 2) by 2", x.of(0, 8), 3);
        NineMowers told = Due.with("", TOLD, 0);
        told.set(0, 1, 0);
        told.row(0, 0, 4);
        due("TOLD: (3 + 4) by 2", told.of(0, 8), 3);
        told.row(0, 0, 9);
        due("TOLD: (3 + 9) by 2", told.of(0, 8), 6);
    }

    private static void stridesFirst() {
        Document.says("A MINUTE goes: STRIDES of all (by how all is ahead of it);");
        NineMowers x = Due.with("fast 1 m=1&d=0", PRESSED, 0, STEADY, 0);
        x.set(0, 0, 4);
        due("nobody HELD", x.minute(), 0);
        is("pressed by how it was", x, 0, 12, 9, 1, 0);
        is("fast by the MINUTE it was", x, 1, 7, 9, 1, 0);
        NineMowers turned = Due.with("gap 0", STEADY, 0, PRESSED, 0, STEADY, 0);
        turned.set(0, 0, 20);
        turned.set(1, 0, 2);
        due("the last one is HELD by none", turned.minute(), 0);
        is("pressed by 2 ahead of it", turned, 1, 10, 9, 1, 0);
        is("goes on by 6", turned, 2, 6, 9, 1, 0);
    }

    private static void stopped() {
        Document.says("then, from the first in THE ROW on: who is STOPPED (above 0) goes nowhere, and is STOPPED 1 less;");
        NineMowers x = Due.with("", STEADY, 0);
        puts(x, 0, 7, 4, 9, 2);
        due("STOPPED 2", x.minute(), 0);
        is("STOPPED 2", x, 0, 7, 4, 7, 1);
        due("STOPPED 1", x.minute(), 0);
        is("STOPPED 1", x, 0, 7, 4, 5, 0);
        due("STOPPED 0", x.minute(), 0);
        is("STOPPED 0", x, 0, 13, 3, 6, 0);
        x.set(0, 3, 99);
        x.minute();
        is("STOPPED 99", x, 0, 13, 3, 4, 98);
        NineMowers row = Due.with("", STEADY, 0, STEADY, 0);
        row.set(0, 3, 1);
        due("who is behind a STOPPED one is HELD", row.minute(), 2);
        row.set(1, 3, 1);
        due("who could not go on anyway, but is STOPPED, is not", row.minute(), 0);
        is("STOPPED behind", row, 1, 0, 10, 0, 0);
    }

    private static void far() {
        Document.says("any other one goes on by STRIDE, but no farther than where the next one ahead in THE ROW is by then, "
            + "less GAP (nor beyond 9999), and never back;");
        int[][] rooms = {{8, 0, 6}, {9, 0, 6}, {7, 2, 5}, {3, 2, 1}, {2, 2, 0}, {1, 2, 0}, {0, 2, 0}};
        for (int[] one : rooms) {
            NineMowers x = Due.with("", STEADY, 0, STEADY, 0);
            puts(x, 0, one[0], 10, 0, 1);
            due(one[0] + " ahead of one at 0", x.minute(), one[1]);
            due("goes on to", x.of(1, 2), one[2]);
        }
        NineMowers x = Due.with("gap 9", STEADY, 0, STEADY, 0, STEADY, 0);
        x.set(0, 0, 12);
        due("12, 0, 0", x.minute(), 4);
        due("as far as the one ahead is by then: 18 less 9", x.of(1, 2), 6);
        due("6 less 9: never back", x.of(2, 2), 0);
        x.place(2, 0);
        due("2 is the first one now, 0 behind it", x.minute(), 3);
        due("the first one is HELD by nobody", x.of(2, 2), 6);
        due("0 stays", x.of(0, 2), 18);
        due("1: 18 less 9 is 9", x.of(1, 2), 9);
        NineMowers touching = Due.with("gap 0", STEADY, 0, STEADY, 0);
        due("GAP 0", touching.minute(), 0);
        due("at the heels", touching.of(1, 2), 6);
        NineMowers wide = Due.with("gap 99", STEADY, 0, STEADY, 0);
        wide.set(0, 0, 99);
        due("GAP 99", wide.minute(), 0);
        due("6 of 6", wide.of(1, 2), 6);
        int[][] ends = {{9992, 0, 9998}, {9993, 0, 9999}, {9994, 1, 9999}, {9998, 1, 9999}, {9999, 1, 9999}};
        for (int[] one : ends) {
            NineMowers end = Due.with("", STEADY, 0);
            end.set(0, 0, one[0]);
            due("from " + one[0], end.minute(), one[1]);
            due("nor beyond 9999", end.of(0, 2), one[2]);
        }
    }

    private static void held() {
        Document.says("it is HELD, if that is less far than STRIDE.");
        NineMowers x = Due.with("slow 6 m=1", STEADY, 0, STEADY, 0, STEADY, 0, STEADY, 0, STEADY, 0, STEADY, 0);
        due("1 has STRIDE 0, those behind have less room", x.minute(), 4 + 8 + 16 + 32);
        NineMowers one = Due.with("slow 5 m=0", STEADY, 0);
        due("STRIDE 1, goes on by 1", one.minute(), 0);
        one.set(0, 0, 9999);
        due("STRIDE 1 at 9999", one.minute(), 1);
        one.set(0, 1, 0);
        due("STRIDE 0 at 9999", one.minute(), 0);
        one.set(0, 1, 5);
        one.set(0, 3, 1);
        due("STOPPED at 9999", one.minute(), 0);
        NineMowers sixth = Due.with("gap 0", STEADY, 0, STEADY, 0, STEADY, 0, STEADY, 0, STEADY, 0, STEADY, 0);
        sixth.set(4, 0, 5);
        sixth.set(4, 3, 1);
        due("the sixth one alone", sixth.minute(), 32);
    }

    private static void worn() {
        Document.says("Who went on by 1 or more: EDGE 1 less (0 at least), TIRED more by TIRE (99 at most);");
        int[][] edges = {{10, 9}, {2, 1}, {1, 0}, {0, 0}};
        for (int[] one : edges) {
            NineMowers x = Due.with("", STEADY, 0);
            x.set(0, 1, one[0]);
            x.minute();
            due("EDGE " + one[0], x.of(0, 3), one[1]);
        }
        int[][] tired = {{0, 0, 0}, {99, 0, 99}, {97, 1, 98}, {98, 1, 99}, {99, 1, 99}, {0, 99, 99}, {1, 99, 99},
            {89, 10, 99}, {90, 10, 99}, {88, 10, 98}};
        for (int[] one : tired) {
            NineMowers x = Due.with("tire " + one[1], STEADY, 0);
            x.set(0, 2, one[0]);
            x.minute();
            due("TIRED " + one[0] + ", TIRE " + one[1], x.of(0, 4), one[2]);
        }
        NineMowers one = Due.with("tire 5", STEADY, 0, STEADY, 0);
        puts(one, 0, 3, 10, 0, 1);
        due("HELD, but goes on by 1", one.minute(), 2);
        is("by 1", one, 1, 1, 9, 5, 0);
    }

    private static void others() {
        Document.says("others: TIRED 2 less (0 at least).");
        int[][] tired = {{99, 97}, {3, 1}, {2, 0}, {1, 0}, {0, 0}};
        for (int[] one : tired) {
            NineMowers x = Due.with("slow 6 m=2", STEADY, 0, STEADY, 0, STEADY, 0);
            puts(x, 0, 2, 7, one[0], 1);
            puts(x, 1, 0, 7, one[0], 0);
            x.place(2, 0);
            puts(x, 2, 50, 7, one[0], 0);
            due("1 is HELD", x.minute(), 2);
            is("STOPPED", x, 0, 2, 7, one[1], 0);
            is("HELD, goes on by 0", x, 1, 0, 7, one[1], 0);
            is("STRIDE 0", x, 2, 50, 7, one[1], 0);
        }
        Document.says("MINUTE is 1 more.");
        NineMowers x = new NineMowers();
        x.minute();
        due("1", x.told(0), 1);
        x.minute();
        due("2", x.told(0), 2);
        NineMowers late = Due.atMinute(9998, "");
        due("9998", late.minute(), 0);
        due("9999", late.told(0), 9999);
        due("not 10000", late.minute(), -3);
        due("still 9999", late.told(0), 9999);
    }

    private static void whetting() {
        Document.says("WHETTING: EDGE of all becomes 10; MINUTE is 1 more (nobody goes on; TIRED of all 1 less, 0 at least; "
            + "STOPPED 1 less, 0 at least).");
        NineMowers x = Due.with("tire 9", STEADY, 0, HASTY, 0, OLD, 0, TOLD, 0);
        puts(x, 0, 20, 0, 0, 0);
        puts(x, 1, 10, 10, 1, 1);
        puts(x, 2, 5, 9, 2, 2);
        puts(x, 3, 9999, 5, 99, 99);
        due("MINUTE", x.whet(), 1);
        is("least", x, 0, 20, 10, 0, 0);
        is("1", x, 1, 10, 10, 0, 0);
        is("2", x, 2, 5, 10, 1, 1);
        is("most", x, 3, 9999, 10, 98, 98);
        due("MINUTE again", x.whet(), 2);
        is("never below 0", x, 1, 10, 10, 0, 0);
    }

    private static void pause() {
        Document.says("A PAUSE of n MINUTES: TIRED of all 3 times n less (0 at least), MINUTE is n more, "
            + "STOPPED n less (0 at least).");
        NineMowers x = Due.with("tire 9", STEADY, 0, HASTY, 0, OLD, 0, TOLD, 0);
        puts(x, 0, 20, 0, 5, 1);
        puts(x, 1, 10, 10, 6, 2);
        puts(x, 2, 5, 9, 7, 3);
        puts(x, 3, 9999, 5, 99, 99);
        due("2 MINUTES", x.pause(2), 2);
        is("below", x, 0, 20, 0, 0, 0);
        is("just 0", x, 1, 10, 10, 0, 0);
        is("1 above", x, 2, 5, 9, 1, 1);
        is("most", x, 3, 9999, 5, 93, 97);
        due("1 MINUTE", x.pause(1), 3);
        is("most, 1 more", x, 3, 9999, 5, 90, 96);
        is("never below 0", x, 0, 20, 0, 0, 0);
        due("60 MINUTES", x.pause(60), 63);
        is("60", x, 3, 9999, 5, 0, 36);
        NineMowers rested = Due.with("", STEADY, 0, STEADY, 0);
        rested.set(0, 2, 99);
        rested.set(1, 3, 60);
        due("33 MINUTES", rested.pause(33), 33);
        due("TIRED 99 is 0", rested.of(0, 4), 0);
        due("27 more", rested.pause(27), 60);
        due("STOPPED 60 is 0", rested.of(1, 5), 0);
    }
}
