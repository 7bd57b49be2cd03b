/** The edges that the terms name of fields: what may follow what in THE TEXT, the FAULT, and which clause counts. */
final class FieldEdges {
    private static final int NONE = -1, FULL = -4;
    private static final String DIGITS = "0123456789", WORDS = "fsgtl", TESTS = "mkpetd", PARTS = "mkpetd!(";
    private static final String NINE = "gap 1;gap 2;gap 3;gap 4;gap 5;gap 6;gap 7;gap 8;gap 9";

    private FieldEdges() {
    }

    static void all() {
        text();
        clauses();
        words();
        blanks();
        joins();
        parts();
        tests();
        letters();
        within();
        fault();
        newest();
        pace();
        lastOnes();
    }

    private static void due(String call, long got, long want) {
        Document.due(call, got, want);
    }

    /** What field() answers of a new object that is fed the text. */
    private static int field(String text) {
        return Due.field(new NineMowers(), text);
    }

    /** Behind this beginning just these signs can come: each other one of the 128 is the FAULT. */
    private static void follows(String beginning, String signs) {
        int place = beginning.length();
        for (char sign = 0; sign <= 127; sign++) {
            int answer = field(beginning + sign);
            if (signs.indexOf(sign) < 0) {
                due(beginning + " and sign " + (int) sign, answer, -10 - place);
            } else if (answer != 0) {
                due(beginning + sign, answer, -10 - place - 1);
            }
        }
    }

    private static String times(String part, int n) {
        return part.repeat(n);
    }

    private static void text() {
        Document.says("A FIELD is read from THE TEXT (bytes, 100 at most):");
        String ahead = "fast 11 m=11";
        NineMowers x = new NineMowers();
        Due.feed(x, ahead + times("|m=1", 21) + "|m=");
        due("99 bytes", x.count(5), 99);
        due("the 100th", x.feed('0'), 100);
        due("a 101st", x.feed('0'), FULL);
        due("100 are kept", x.count(5), 100);
        due("100 bytes are a FIELD", x.field(), 0);
        x.mower(0, 0);
        due("the 100th is read", x.of(0, 7), 17);
        due("a 101st would have been", field("fast 1 m=1" + times("|m=1", 22) + "|m"), -110);
        due("no bytes", field(""), -10);
        due("one byte", field("f"), -11);
    }

    private static void clauses() {
        Document.says("CLAUSES, 1 to 10, with ; between:");
        due("none", field(""), -10);
        due("one", field("gap 1"), 0);
        due("nine", field(NINE), 0);
        due("ten", field(NINE + ";gap 0"), 0);
        due("eleven", field(NINE + ";gap 0;gap 1"), -10 - NINE.length() - 6);
        due("; ahead", field(";gap 1"), -10);
        due("; behind", field("gap 1;"), -16);
        due("; twice", field("gap 1;;gap 1"), -16);
        follows("gap 1;", WORDS);
        follows(NINE + ";", WORDS);
        follows(NINE + ";gap 1", DIGITS);
        follows(NINE + ";gap 10", "");
        String fast = times("fast 1 m=0;", 8);
        NineMowers x = Due.with(fast.substring(0, fast.length() - 1), 0, 0);
        due("eight that are fast", x.of(0, 7), 14);
        NineMowers tenth = Due.with(NINE + ";fast 9 m=0", 0, 0);
        due("the tenth counts", tenth.of(0, 7), 15);
        NineMowers last = Due.with(NINE + ";gap 77", 0, 0);
        due("the tenth is the last one", last.told(1), 77);
    }

    private static void words() {
        Document.says("fast n E; slow n E; gap n; tire n; long n");
        follows("", WORDS);
        String[] words = {"fast ", "slow ", "gap ", "tire ", "long "};
        for (String word : words) {
            for (int i = 1; i < word.length(); i++) {
                follows(word.substring(0, i), word.substring(i, i + 1));
            }
            follows(word, DIGITS);
        }
        due("gap takes no E", field("gap 1 m=0"), -15);
        due("tire takes no E", field("tire 1 m=0"), -16);
        due("long takes no E", field("long 1 m=0"), -16);
        due("fast takes one", field("fast 1;gap 1"), -16);
        due("slow takes one", field("slow 12"), -17);
    }

    private static void blanks() {
        Document.says("(one blank ahead of each part behind the word; n 1 or 2 digits).");
        due("no blank ahead of n", field("gap1"), -13);
        due("two", field("gap  1"), -14);
        due("no blank ahead of E", field("fast 1m=1"), -16);
        due("two", field("fast 1  m=1"), -17);
        due("a blank at first", field(" gap 1"), -10);
        due("a blank at last", field("gap 1 "), -15);
        due("a blank behind E", field("fast 1 m=1 "), -20);
        due("a blank within E", field("fast 1 m =1"), -18);
        due("a blank behind ;", field("gap 1; gap 1"), -16);
        due("no digit", field("gap ;"), -14);
        due("below 0", field("gap -1"), -14);
        due("three digits", field("gap 100"), -16);
        due("three digits ahead of E", field("fast 100 m=1"), -17);
        follows("gap 1", DIGITS + ";");
        follows("gap 12", ";");
        follows("tire 1", DIGITS + ";");
        follows("tire 12", ";");
        follows("long 1", DIGITS + ";");
        follows("long 12", ";");
        follows("fast 1", DIGITS + " ");
        follows("fast 12", " ");
        follows("slow 1", DIGITS + " ");
        follows("slow 12", " ");
        due("0", Due.with("gap 0").told(1), 0);
        due("99", Due.with("gap 99").told(1), 99);
        due("01", Due.with("gap 01").told(1), 1);
        due("00", Due.with("gap 00").told(1), 0);
        due("fast 0", Due.with("fast 0 m=0", 0, 0).of(0, 7), 6);
        due("fast 99", Due.with("fast 99 m=0", 0, 0).of(0, 7), 105);
        due("slow 05", Due.with("slow 05 m=0", 0, 0).of(0, 7), 1);
    }

    private static void joins() {
        Document.says("E: T or T|E. T: F or F&T.");
        follows("fast 1 m=1&", PARTS);
        follows("fast 1 m=1|", PARTS);
        follows("fast 1 m=1", DIGITS + "&|;");
        follows("fast 1 m=12", "&|;");
        due("| at first", field("fast 1 |m=1"), -17);
        due("& twice", field("fast 1 m=1&&m=1"), -21);
        due("| at last", field("fast 1 m=1|"), -21);
        String[] joined = {"e=1", "e=1|t=1", "e=1&t=1", "e=1|t=1&d=1", "e=1&t=1|d=1", "e=1|t=1|d=1", "e=1&t=1&d=1",
            "e=1&t=1|d=1&e=1|t=1&d=1"};
        for (int bits = 0; bits < 8; bits++) {
            boolean a = (bits & 1) != 0;
            boolean b = (bits & 2) != 0;
            boolean c = (bits & 4) != 0;
            boolean[] so = {a, a || b, a && b, a || b && c, a && b || c, a || b || c, a && b && c,
                a && b || c && a || b && c};
            for (int i = 0; i < joined.length; i++) {
                due(joined[i] + " by " + bits, pace(joined[i], bits), so[i] ? 7 : 6);
            }
        }
    }

    /** PACE by a field that is 1 faster if the test holds: bit 0 that EDGE is 1, 1 that TIRED is 10, 2 MINUTE 1. */
    private static int pace(String test, int bits) {
        NineMowers x = Due.with("fast 1 " + test, 0, 0);
        if ((bits & 4) != 0) {
            x.pause(1);
        }
        x.set(0, 1, bits & 1);
        x.set(0, 2, (bits & 2) * 5);
        return x.of(0, 7);
    }

    private static void parts() {
        Document.says("F: !F, (E), or a TEST:");
        follows("fast 1 ", PARTS);
        follows("fast 1 !", PARTS);
        follows("fast 1 (", PARTS);
        follows("slow 1 (m=1", DIGITS + "&|)");
        follows("slow 1 (m=12", "&|)");
        follows("slow 1 (m=12)", "&|;");
        follows("slow 1 ((m=1)", "&|)");
        due("() without E", field("fast 1 ()"), -18);
        due(") too many", field("fast 1 (m=1))"), -22);
        due(") too few", field("fast 1 ((m=1)"), -23);
        due("! behind a TEST", field("fast 1 m=1!"), -20);
        String[] parts = {"!e=1", "!!e=1", "!!!e=1", "(e=1)", "!e=1&t=1", "!(e=1&t=1)", "!e=1|t=1", "!(e=1|t=1)",
            "(e=1|t=1)&d=1", "e=1&(t=1|d=1)", "!(e=1|!(t=1&d=1))"};
        for (int bits = 0; bits < 8; bits++) {
            boolean a = (bits & 1) != 0;
            boolean b = (bits & 2) != 0;
            boolean c = (bits & 4) != 0;
            boolean[] so = {!a, a, !a, a, !a && b, !(a && b), !a || b, !(a || b), (a || b) && c, a && (b || c),
                !(a || !(b && c))};
            for (int i = 0; i < parts.length; i++) {
                due(parts[i] + " by " + bits, pace(parts[i], bits), so[i] ? 7 : 6);
            }
        }
    }

    private static void tests() {
        Document.says("a letter, < or = or >, a number (1 or 2 digits):");
        for (char letter : TESTS.toCharArray()) {
            follows("fast 1 " + letter, "<=>");
            for (char comparison : "<=>".toCharArray()) {
                follows("fast 1 " + letter + comparison, DIGITS);
            }
        }
        due("three digits", field("fast 1 e<100"), -21);
        due("no number", field("fast 1 e<;gap 1"), -19);
        due("<=", field("fast 1 e<=1"), -19);
        compared("e<5", 4, 4);
        compared("e<5", 5, -1);
        compared("e<5", 6, -1);
        compared("e=5", 4, -1);
        compared("e=5", 5, 5);
        compared("e=5", 6, -1);
        compared("e>5", 4, -1);
        compared("e>5", 5, -1);
        compared("e>5", 6, 6);
        compared("e<0", 0, -1);
        compared("e=0", 0, 0);
        compared("e=00", 0, 0);
        compared("e>0", 0, -1);
        compared("e>0", 1, 1);
        compared("e>9", 10, 10);
        compared("e>10", 10, -1);
        compared("e=10", 10, 10);
        compared("e=05", 5, 5);
        compared("e<99", 10, 10);
        compared("e>99", 10, -1);
    }

    /** The test holds with this EDGE, if holds is not below 0. */
    private static void compared(String test, int edge, int holds) {
        NineMowers x = Due.with("fast 1 " + test, 0, 0);
        x.set(0, 1, edge);
        due(test + " with EDGE " + edge, x.of(0, 7), holds >= 0 ? 7 : 6);
    }

    private static void letters() {
        Document.says("of a MOWER m its number, k its KIND, p its place in THE ROW, e EDGE, t TIRED by 10 (cut), "
            + "d MINUTE modulo 10.");
        NineMowers x = Due.with("fast 1 m=0;fast 2 m=5;fast 4 p=0;fast 8 p=5;fast 16 k=0;fast 32 k=6", 0, 0, 1, 0, 2, 0,
            3, 0, 4, 0, 6, 0);
        due("number 0, place 0, KIND 0", x.of(0, 7), 6 + 1 + 4 + 16);
        due("number 5, place 5, KIND 6", x.of(5, 7), 6 + 2 + 8 + 32);
        due("number 4, place 4, KIND 4", x.of(4, 7), 6);
        x.place(5, 0);
        due("place 0 then", x.of(5, 7), 6 + 2 + 4 + 32);
        due("place 1 then", x.of(0, 7), 6 + 1 + 16);
        due("place 5 then", x.of(4, 7), 6 + 8);
        for (char letter : TESTS.toCharArray()) {
            NineMowers least = Due.with("fast 1 " + letter + "<0;fast 2 " + letter + "<1;fast 4 k=0|" + letter + "<0;fast 8 !"
                + letter + "<0&k=0;fast 16 " + letter + ">98", 0, 0);
            least.set(0, 1, 0);
            due(letter + " is 0", least.of(0, 7), 6 + 2 + 4 + 8);
        }
        NineMowers tired = Due.with("fast 1 t=0;fast 2 t=1;fast 4 t=9;fast 8 t>9", 0, 0);
        int[][] tens = {{0, 7}, {9, 7}, {10, 8}, {19, 8}, {20, 6}, {89, 6}, {90, 10}, {99, 10}};
        for (int[] one : tens) {
            tired.set(0, 2, one[0]);
            due("t of TIRED " + one[0], tired.of(0, 7), one[1]);
        }
        NineMowers day = Due.with("fast 1 d=0;fast 2 d=9;fast 4 d>9", 0, 0);
        int[] paces = {7, 6, 6, 6, 6, 6, 6, 6, 6, 8, 7, 6};
        for (int minute = 0; minute < paces.length; minute++) {
            due("d of MINUTE " + minute, day.of(0, 7), paces[minute]);
            day.pause(1);
        }
    }

    private static void within() {
        Document.says("A ( or ! within 4 others is none.");
        String[] four = {"!!!!", "((((", "!(!(", "((!!", "(!!("};
        for (String open : four) {
            follows("fast 1 " + open.substring(0, 3), PARTS);
            follows("fast 1 " + open, TESTS);
        }
        follows("fast 1 ((((m=1&", TESTS);
        follows("fast 1 ((((m=1|", TESTS);
        follows("fast 1 ((((m=1)&", PARTS);
        follows("fast 1 ((((m=1))))|", PARTS);
        follows("fast 1 !!!!m=1&", PARTS);
        follows("fast 1 (!!!m=1&", PARTS);
        follows("fast 1 (!!(m=1&", TESTS);
        due("4 again", field("fast 1 ((((m=1))))&!!!!m=1|((!!m=1))"), 0);
        due("4 in the next CLAUSE", field("fast 1 ((((m=1))));slow 1 ((((m=1))))"), 0);
        due("a fifth there", field("fast 1 ((((m=1))));slow 1 (((((m=1)))))"), -10 - 30);
        for (int bits = 0; bits < 8; bits++) {
            boolean a = (bits & 1) != 0;
            boolean b = (bits & 2) != 0;
            boolean c = (bits & 4) != 0;
            boolean so = a || b && (a || b && (a || c && (b && c || a && (b || c))));
            due("4 ( by " + bits, pace("e=1|t=1&(e=1|t=1&(e=1|d=1&(t=1&d=1|e=1&(t=1|d=1))))", bits), so ? 7 : 6);
            due("4 ! by " + bits, pace("!!!!e=1", bits), a ? 7 : 6);
        }
    }

    private static void fault() {
        Document.says("The FAULT: the place of the first byte with which none begins so "
            + "(the end of THE TEXT, if it ends too early).");
        String text = "fast 12 !(m=1|k<10)&p>2;slow 3 ((e=0))|!t<3;gap 4;tire 05;long 60";
        String fields = " 19 23 38 43 49 56 57 64 65 ";
        for (int end = 0; end <= text.length(); end++) {
            boolean isField = fields.contains(" " + end + " ");
            due(text.substring(0, end), field(text.substring(0, end)), isField ? 0 : -10 - end);
        }
        for (int place = 0; place < text.length(); place++) {
            for (char never : new char[] {0, '#', 'F', '~', 127}) {
                String other = text.substring(0, place) + never + text.substring(place + 1);
                due(other, field(other), -10 - place);
            }
            due("with more faults behind", field(text.substring(0, place) + "#;;  )("), -10 - place);
        }
        due("at 0", field("#"), -10);
        due("at 99", field("fast 1 m=1" + times("|m=1", 22) + "|#"), -109);
        due("at 100, which is the end", field("fast 1 m=1" + times("|m=1", 22) + "|m"), -110);
    }

    private static void newest() {
        Document.says("The newest FIELD holds (6 at most); without one there are no CLAUSES.");
        NineMowers x = Due.with("", 0, 0);
        due("PACE without", x.of(0, 7), 6);
        for (int i = 0; i < 6; i++) {
            due("a FIELD", Due.field(x, "fast " + (i + 1) + " m=0"), i);
            due("the newest holds", x.of(0, 7), 7 + i);
        }
        due("a seventh", Due.field(x, "fast 50 m=0"), FULL);
        due("does not hold", x.of(0, 7), 12);
        due("six", x.count(1), 6);
        NineMowers faulty = Due.with("fast 1 m=0", 0, 0);
        due("a fault", Due.field(faulty, "fast 2 m=0;"), -21);
        due("the one that held holds", faulty.of(0, 7), 7);
    }

    private static void pace() {
        Document.says("PACE: 6, and the n of all fast whose E holds, less those of all slow, together (0 at least).");
        due("none holds", Due.with("fast 9 m>0;slow 9 m>0", 0, 0).of(0, 7), 6);
        due("all fast", Due.with("fast 9 m=0;fast 1 m=0", 0, 0).of(0, 7), 16);
        due("all slow", Due.with("slow 2 m=0;slow 3 m=0", 0, 0).of(0, 7), 1);
        due("0", Due.with("slow 6 m=0", 0, 0).of(0, 7), 0);
        due("below 0", Due.with("slow 7 m=0", 0, 0).of(0, 7), 0);
        due("far below 0", Due.with("slow 99 m=0;slow 99 m=0", 0, 0).of(0, 7), 0);
        due("together: below 0 on the way", Due.with("slow 99 m=0;fast 95 m=0", 0, 0).of(0, 7), 2);
        due("together: above 0 on the way", Due.with("fast 95 m=0;slow 99 m=0", 0, 0).of(0, 7), 2);
        due("much", Due.with("fast 99 m=0;fast 99 m=0;fast 99 m=0;fast 99 m=0;fast 99 m=0;fast 99 m=0;fast 99 m=0", 0, 0)
            .of(0, 7), 6 + 7 * 99);
    }

    private static void lastOnes() {
        Document.says("GAP (2 without), TIRE (1 without), LENGTH (60 without; 1 if less): the last one's n.");
        lengths(new NineMowers(), 2, 1, 60);
        lengths(Due.with("fast 1 m=0"), 2, 1, 60);
        lengths(Due.with("gap 7"), 7, 1, 60);
        lengths(Due.with("tire 7"), 2, 7, 60);
        lengths(Due.with("long 7"), 2, 1, 7);
        lengths(Due.with("gap 0;tire 0;long 0"), 0, 0, 1);
        lengths(Due.with("gap 00;tire 00;long 00"), 0, 0, 1);
        lengths(Due.with("gap 1;tire 1;long 1"), 1, 1, 1);
        lengths(Due.with("gap 99;tire 99;long 99"), 99, 99, 99);
        lengths(Due.with("gap 9;tire 8;long 7;long 6;tire 5;gap 4"), 4, 5, 6);
        lengths(Due.with("gap 4;long 30;fast 1 m=0;long 0"), 4, 1, 1);
        NineMowers x = Due.with("gap 4;tire 4;long 4");
        due("another FIELD", Due.field(x, "slow 1 m=0"), 1);
        lengths(x, 2, 1, 60);
        due("no such number", x.told(4), NONE);
    }

    private static void lengths(NineMowers x, int gap, int tire, int length) {
        due("GAP", x.told(1), gap);
        due("TIRE", x.told(2), tire);
        due("LENGTH", x.told(3), length);
    }
}
