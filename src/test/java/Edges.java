import java.lang.reflect.Method;
import java.math.BigInteger;
import java.util.Arrays;
import java.util.Comparator;
import java.util.List;
import java.util.function.Function;
import java.util.function.Supplier;

/**
 * What the edge tests share. Each of their tests is a method named after the promise (promise09..) or after the part
 * of 'Terms' (terms.., part1.., part2.., part3..) whose sentence it holds; runAll runs them all.
 */
final class Edges {
    static final int BAD = -1, NOT = -2, FULL = -3, NONE = -4, NULL = -11, CAST = -12, INDEX = -13, SIZE = -14;
    static final int MIN = Integer.MIN_VALUE, MAX = Integer.MAX_VALUE;

    /** A call on an object, for calls that are made on several alike. */
    interface Call {
        int on(AshClerks x);
    }

    /** A call with one argument left open. */
    interface With {
        int on(AshClerks x, int v);
    }

    private final Due due = new Due();
    private String test = "";

    void runAll(Class<?> tests) throws Exception {
        Method[] all = tests.getDeclaredMethods();
        Arrays.sort(all, Comparator.comparing(Method::getName));
        int ran = 0;
        for (Method m : all) {
            if (m.getName().matches("(promise[0-9][0-9]|terms|part[123])[A-Z].*")) {
                test = m.getName();
                m.setAccessible(true);
                m.invoke(null);
                ran++;
            }
        }
        due.holds("there are tests in " + tests.getName(), ran > 0);
        System.out.println(ran + " edge tests in " + tests.getName());
        due.end();
    }

    void is(String call, long got, long want) {
        due.is(test + ": " + call, got, want);
    }

    void holds(String what, boolean so) {
        due.holds(test + ": " + what, so);
    }

    /** The answers of what 0, 1, 2 .. on are those that are due. */
    void are(String call, AshClerks x, With asked, int... want) {
        for (int k = 0; k < want.length; k++) {
            is(call + " " + k, asked.on(x, k), want[k]);
        }
    }

    /** A call is refused with this answer and leaves no trace, whatever is asked then. */
    void refused(String what, int want, Supplier<AshClerks> scene, Call call) {
        is(what, call.on(scene.get()), want);
        noTrace(what, scene, call);
    }

    /** All that can be asked of an object is as it is without the call. */
    void noTrace(String what, Supplier<AshClerks> scene, Call call) {
        for (int k = 0; k < TRACES.size(); k++) {
            AshClerks called = scene.get();
            call.on(called);
            String with = TRACES.get(k).apply(called);
            String without = TRACES.get(k).apply(scene.get());
            holds(what + " changes nothing:\n  " + with + "\n  " + without, with.equals(without));
        }
    }

    /** All of low .. high is taken by a call; just below, just above and far outside is BAD and changes nothing. */
    void bounds(String what, int low, int high, Supplier<AshClerks> scene, With call) {
        for (int v = low; v <= high; v++) {
            holds(what + " takes " + v, call.on(scene.get(), v) != BAD);
        }
        for (int v : new int[] {low - 1, high + 1, MIN, MAX}) {
            refused(what + " of " + v, BAD, scene, x -> call.on(x, v));
        }
    }

    // ---- scenes: objects with something of everything that a refused call might spoil

    static AshClerks nobody() {
        AshClerks x = new AshClerks();
        x.type('1');
        return x;
    }

    /** Three clerks; 0 and 2 smoke, 1 is laid down; seven steps are known, an image is kept, sheet 3 is nothing. */
    static AshClerks three() {
        AshClerks x = Due.with("35;p01/20,n42/15,o93/9");
        return lived(x);
    }

    /** Six clerks, of all kinds. */
    static AshClerks six() {
        AshClerks x = Due.with("35;p01/20,n22/15,s41/40,c63/30,o82/30,p95/7x");
        return lived(x);
    }

    private static AshClerks lived(AshClerks x) {
        x.seed(77);
        x.minutes(2);
        x.lay(2);
        x.image();
        x.drift(1);
        x.light(2);
        x.shake(0, 4);
        x.lay(1);
        x.sheet(0, 0, 3);
        x.item(0, 0, 0, 2);
        x.item(0, 0, 2, 1);
        x.sheet(1, 3, 24);
        x.item(1, 3, 23, 5);
        x.sheet(2, 1, 0);
        x.type('1');
        x.type('2');
        x.type(';');
        return x;
    }

    /** A plain and an old clerk in a later minute. */
    static AshClerks atMinute(int minute) {
        AshClerks x = Due.with("12;p01,o01");
        for (int left = minute; left > 0; left -= 60) {
            x.minutes(Math.min(60, left));
        }
        return x;
    }

    /** An object whose sheet s is a row of ints with these items. */
    static AshClerks withInts(AshClerks x, int s, long... items) {
        x.sheet(s, 2, items.length);
        for (int k = 0; k < items.length; k++) {
            x.item(s, 2, k, items[k]);
        }
        return x;
    }

    /** The seed from which the next draw is this one. */
    static int seedFor(long draw) {
        BigInteger all = BigInteger.ONE.shiftLeft(31);
        BigInteger back = BigInteger.valueOf(1103515245L).modInverse(all);
        return BigInteger.valueOf(draw - 12345).multiply(back).mod(all).intValueExact();
    }

    /** The first draw, from one on, that leaves over these by 5, 20 and 10. */
    static int drawOf(int from, int by5, int g, int desk) {
        for (long d = from; d <= MAX; d++) {
            if (d / 65536 % 5 == by5 && d / 1024 % 20 == g && d / 128 % 10 == desk) {
                return (int) d;
            }
        }
        throw new IllegalStateException("no such draw");
    }

    // ---- traces: each on an object of its own, as most of them use it up; all are far below 512 calls

    private static final List<Function<AshClerks, String>> TRACES = List.of(
        Edges::stateNow, Edges::pastOf, Edges::imageOf, Edges::tapeOf, Edges::sheetsOf);

    static String stateNow(AshClerks x) {
        return Due.state(x) + " pay " + x.pay(7) + " falls " + x.falls(4, 20, 0);
    }

    static String pastOf(AshClerks x) {
        StringBuilder told = new StringBuilder("past ");
        int left = x.undo();
        for (int k = 0; k < 10 && left >= 0; k++) {
            told.append(left).append(':').append(x.count(1)).append(',').append(x.count(5));
            for (int c = 0; c < x.count(0); c++) {
                told.append(',').append(x.of(c, 3));
            }
            int draw = x.seed(0);
            x.seed(draw);
            told.append(',').append(draw).append(' ');
            left = x.undo();
        }
        return told.append(left).toString();
    }

    static String imageOf(AshClerks x) {
        return "image " + x.restore() + " " + Due.state(x) + pastOf(x);
    }

    static String tapeOf(AshClerks x) {
        return "tape " + x.type(' ') + " " + x.type('s') + x.type('4') + x.type('5') + " " + x.office() + " " + Due.state(x);
    }

    /** The lanes, the lengths and the items 0 .. 5 of the sheets; each clerk of the office put there has a way of its own. */
    static String sheetsOf(AshClerks x) {
        StringBuilder told = new StringBuilder("sheets ");
        x.office();
        Due.office(x, "10;p01/5,p21/5,p41/5,p61/5,p81/5,p91/5");
        for (int s = 0; s < 4; s++) {
            for (int lane = 0; lane < 4; lane++) {
                int there = x.item(s, lane, -1, 0);
                told.append(there).append(' ');
                for (int i = 0; i < 24 && there == INDEX; i++) {
                    told.append(x.whence(s, lane, i, 1, 1)).append(',');
                }
            }
            told.append(x.drop(s)).append(" | ");
        }
        return told.toString();
    }
}
