/** Counts answers that are as due and prints those that are not. */
final class Due {
    private static int passed = 0;
    private static int failed = 0;

    private Due() {
    }

    static void due(String call, long got, long want) {
        if (got == want) {
            passed++;
            return;
        }
        failed++;
        if (failed <= 40) {
            System.out.println(call + " answered " + got + ", due is " + want);
        }
    }

    static void holds(String what, boolean so) {
        due(what, so ? 1 : 0, 1);
    }

    static boolean anyFailed() {
        return failed > 0;
    }

    static void feed(NineMowers x, String text) {
        for (char sign : text.toCharArray()) {
            x.feed(sign);
        }
    }

    static int field(NineMowers x, String text) {
        feed(x, text);
        return x.field();
    }

    /** A new object with mowers by kind and v; no field, if the text is empty. */
    static NineMowers with(String text, int... kindsAndVs) {
        NineMowers x = new NineMowers();
        if (!text.isEmpty()) {
            due("field of " + text, field(x, text), 0);
        }
        for (int i = 0; i + 1 < kindsAndVs.length; i += 2) {
            due("mower", x.mower(kindsAndVs[i], kindsAndVs[i + 1]), i / 2);
        }
        return x;
    }

    /** As with(), but when so many MINUTES have gone by in PAUSES. */
    static NineMowers atMinute(int minute, String text, int... kindsAndVs) {
        NineMowers x = with(text, kindsAndVs);
        for (int left = minute; left > 0; left -= 60) {
            x.pause(Math.min(60, left));
        }
        return x;
    }

    /** All that can be read of an object, but for THE TEXT's bytes and the hidden lists. */
    static String shown(NineMowers x) {
        StringBuilder all = new StringBuilder();
        for (int m = 0; m < 6; m++) {
            for (int what = 0; what <= 8; what++) {
                all.append(x.of(m, what)).append(' ');
            }
        }
        for (int what = 0; what <= 15; what++) {
            all.append(x.told(what)).append(' ');
        }
        for (int what = 0; what <= 6; what++) {
            all.append(x.count(what)).append(' ');
        }
        for (int i = 0; i < 20; i++) {
            all.append(x.trace(i)).append(' ');
        }
        return all.toString();
    }

    static void close(String suite) {
        System.out.println(suite + ": " + passed + " passed, " + failed + " failed");
        if (failed > 0) {
            System.exit(1);
        }
    }
}
