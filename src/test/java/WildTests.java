import com.sun.management.ThreadMXBean;
import java.lang.management.ManagementFactory;
import java.lang.reflect.InvocationTargetException;
import java.lang.reflect.Method;
import java.util.ArrayList;
import java.util.Arrays;
import java.util.Comparator;
import java.util.List;
import java.util.Random;

/** Calls with any arguments: none throws, what is asked or refused changes nothing, and asking makes no objects. */
public final class WildTests {
    private static final long[] WILD = {Integer.MIN_VALUE, Integer.MIN_VALUE + 1, -100, -2, -1, 0, 0, 1, 1, 2, 3, 4, 5, 6,
        9, 10, 11, 13, 15, 20, 21, 25, 30, 31, 59, 60, 61, 99, 100, 101, 109, 127, 128, 9999, 10000,
        Integer.MAX_VALUE - 1, Integer.MAX_VALUE};
    private static final List<String> CHANGING = Arrays.asList("mower", "set", "row", "place", "feed", "field",
        "minute", "whet", "pause", "see", "plan", "book", "undo", "act", "tape", "item", "shift");

    public static void main(String[] args) throws IllegalAccessException {
        List<Method> calls = new ArrayList<>();
        for (Method m : NineMowers.class.getDeclaredMethods()) {
            if (java.lang.reflect.Modifier.isPublic(m.getModifiers())) {
                calls.add(m);
            }
        }
        calls.sort(Comparator.comparing(Method::getName));
        Due.due("calls of the face", calls.size(), 39);
        for (int run = 0; run < 300; run++) {
            plays(calls, run);
        }
        makesNothing();
        Due.close("WildTests");
    }

    private static void plays(List<Method> calls, int run) throws IllegalAccessException {
        Random dice = new Random(1000 + run);
        NineMowers x = new NineMowers();
        for (int m = run % 7; m > 0; m--) {
            x.mower(dice.nextInt(7), dice.nextInt(10));
        }
        for (int i = 0; i < 480; i++) {
            Method call = calls.get(dice.nextInt(calls.size()));
            Object[] arguments = arguments(call, dice);
            String told = "run " + run + ": " + call.getName() + Arrays.toString(arguments);
            String before = Due.shown(x);
            try {
                long answer = ((Number) call.invoke(x, arguments)).longValue();
                boolean refused = answer < 0 && answer >= -14 && !call.getName().equals("act");
                boolean field = call.getName().equals("field") && answer != NineMowers.FULL;
                if (!CHANGING.contains(call.getName()) || refused && !field && !call.getName().equals("item")) {
                    Due.holds(told + " changes nothing", before.equals(Due.shown(x)));
                }
            } catch (InvocationTargetException e) {
                Due.holds(told + " threw " + e.getCause(), false);
            }
        }
    }

    private static Object[] arguments(Method call, Random dice) {
        Class<?>[] sorts = call.getParameterTypes();
        Object[] arguments = new Object[sorts.length];
        for (int i = 0; i < sorts.length; i++) {
            long n = dice.nextInt(3) == 0 ? dice.nextInt(7) : WILD[dice.nextInt(WILD.length)];
            if (sorts[i] == long.class) {
                arguments[i] = dice.nextInt(4) == 0 ? dice.nextLong() : n;
            } else {
                arguments[i] = (int) n;
            }
        }
        return arguments;
    }

    /** The room's rule: rows are made in the constructor and used again. */
    private static void makesNothing() {
        ThreadMXBean room = (ThreadMXBean) ManagementFactory.getThreadMXBean();
        NineMowers x = Due.with("fast 2 e>5|!(t>2);gap 3", 0, 1, 1, 2, 5, 3, 3, 4, 6, 5);
        x.image();
        asksAll(x);
        long before = room.getCurrentThreadAllocatedBytes();
        for (int i = 0; i < 10; i++) {
            asksAll(x);
        }
        Due.due("bytes that asking makes", room.getCurrentThreadAllocatedBytes() - before, 0);
        before = room.getCurrentThreadAllocatedBytes();
        NineMowers other = new NineMowers();
        Due.holds("a new object is small", room.getCurrentThreadAllocatedBytes() - before < 20000);
        Due.due("a new object", other.count(0), 0);
    }

    private static void asksAll(NineMowers x) {
        x.minute();
        x.whet();
        x.pause(1);
        x.tape(0, 1, 6);
        x.item(0, 0, 1);
        x.shift(0, 0, 0, 1, 2);
        x.see(0, 1, 2);
        x.plan(0);
        x.book(1);
        x.act(4, 2, 1);
        x.judge(0, 0);
        x.undo();
        x.image();
        x.on(60, 0);
        x.on(60, 20);
        x.done();
        x.order(12, -1);
        x.whets(60, 0);
        x.apart(60, 0);
        x.stop(0, 1, 60, 1);
        x.alone(60);
        x.rest(60, 1);
        x.paused(30, 0);
        x.who();
        x.odds(0, 60, 0);
        x.mean(60, 0);
        x.planned();
        x.looked();
        x.taken(0, 0);
        x.of(0, 8);
        x.told(1);
    }
}
