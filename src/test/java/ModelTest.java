import java.lang.reflect.Array;
import java.math.BigInteger;
import java.util.ArrayDeque;
import java.util.ArrayList;
import java.util.Arrays;
import java.util.List;
import java.util.Random;
import java.util.regex.Matcher;
import java.util.regex.Pattern;

/**
 * Random runs on the class and on a second program, which was written from the document alone in another way:
 * offices by a pattern, sheets as real rows whose machine exceptions are answered, likelihoods by recursion.
 */
public final class ModelTest {
    private static final int RUNS = 1500;
    // beyond 512 calls an object's answers are free, so no step may begin that could go there: an office is the longest
    private static final int CALLS = 512;
    private static final int LONGEST_STEP = 80;

    public static void main(String[] args) {
        Due due = new Due();
        for (int run = 0; run < RUNS && due.allRight(); run++) {
            new Run(due, run).go();
        }
        due.end();
    }

    /** One run of calls with like arguments on both. */
    private static final class Run {
        private final Due due;
        private final int run;
        private final Random random;
        private final AshClerks x = new AshClerks();
        private final Model m = new Model();
        private final StringBuilder told = new StringBuilder();
        private int asked = 0;

        Run(Due due, int run) {
            this.due = due;
            this.run = run;
            this.random = new Random(run * 7919L + 1);
        }

        void go() {
            int calls = 0;
            while (calls <= CALLS - LONGEST_STEP && due.allRight()) {
                calls += step();
            }
            due.holds("run " + run + " stays within " + CALLS + " calls", asked <= CALLS);
            if (!due.allRight()) {
                System.out.println(told);
            }
        }

        private void same(String call, int got, int want) {
            asked++;
            told.append(call).append(" = ").append(want).append('\n');
            due.is("run " + run + ": " + call, got, want);
        }

        /** Mostly low .. high, now and then just outside, seldom far outside. */
        private int n(int low, int high) {
            int dice = random.nextInt(60);
            if (dice == 0) {
                return low - 1;
            }
            if (dice == 1) {
                return high + 1;
            }
            if (dice == 2 && random.nextInt(4) == 0) {
                int[] far = {Integer.MIN_VALUE, Integer.MAX_VALUE, -1, 0, 1000, Integer.MIN_VALUE + 1};
                return far[random.nextInt(far.length)];
            }
            return low + random.nextInt(high - low + 1);
        }

        private int clerk() {
            return n(0, Math.max(0, m.clerks.size() - 1));
        }

        private int force() {
            return random.nextInt(3) == 0 ? n(0, 99) : n(0, 25);
        }

        private int step() {
            switch (random.nextInt(30)) {
                case 0: { int a = n(0, 4), b = n(0, 9), c = n(1, 9); same("clerk(" + a + ", " + b + ", " + c + ")", x.clerk(a, b, c), m.clerk(a, b, c)); return 1; }
                case 1: { int a = clerk(), b = n(0, 5); same("of(" + a + ", " + b + ")", x.of(a, b), m.of(a, b)); return 1; }
                case 2: { int a = clerk(), b = n(0, 9); same("desk(" + a + ", " + b + ")", x.desk(a, b), m.desk(a, b)); return 1; }
                case 3: { int a = n(0, 1), b = n(0, 9); same("rule(" + a + ", " + b + ")", x.rule(a, b), m.rule(a, b)); return 1; }
                case 4: { int a = n(32, 126); same("type(" + a + ")", x.type(a), m.type(a)); return 1; }
                case 5: return office();
                case 6: { int a = n(0, 7); same("count(" + a + ")", x.count(a), m.count(a)); return 1; }
                case 7: { int a = n(1, random.nextInt(2) == 0 ? 60 : 5); same("minutes(" + a + ")", x.minutes(a), m.minutes(a)); return 1; }
                case 8: { int a = n(0, 9), b = force(); same("shake(" + a + ", " + b + ")", x.shake(a, b), m.shake(a, b)); return 1; }
                case 9: { int a = clerk(); same("lay(" + a + ")", x.lay(a), m.lay(a)); return 1; }
                case 10: case 11: { int a = clerk(); same("light(" + a + ")", x.light(a), m.light(a)); return 1; }
                case 12: { int a = n(1, random.nextInt(2) == 0 ? 60 : 5); same("drift(" + a + ")", x.drift(a), m.drift(a)); return 1; }
                case 13: same("undo()", x.undo(), m.undo()); return 1;
                case 14: { int a = random.nextInt(); same("seed(" + a + ")", x.seed(a), m.seed(a)); return 1; }
                case 15: { int a = clerk(), b = n(0, 120); same("ahead(" + a + ", " + b + ")", x.ahead(a, b), m.ahead(a, b)); return 1; }
                case 16: { int a = n(0, 120); same("pay(" + a + ")", x.pay(a), m.pay(a)); return 1; }
                case 17: { int a = n(0, 9), b = force(), c = n(0, 1); same("falls(" + a + ", " + b + ", " + c + ")", x.falls(a, b, c), m.falls(a, b, c)); return 1; }
                case 18: { int a = force(), b = n(0, 1); same("worst(" + a + ", " + b + ")", x.worst(a, b), m.worst(a, b)); return 1; }
                case 19: { int a = n(0, 9), b = n(1, 6); same("enough(" + a + ", " + b + ")", x.enough(a, b), m.enough(a, b)); return 1; }
                case 20: return seats();
                case 21: { int a = clerk(), b = n(0, 9), c = force(), d = n(1, 60), e = n(0, 1);
                    same("stop(" + a + ", " + b + ", " + c + ", " + d + ", " + e + ")", x.stop(a, b, c, d, e), m.stop(a, b, c, d, e)); return 1; }
                case 22: { int a = clerk(), b = n(0, 10), c = n(0, 1); same("luck(" + a + ", " + b + ", " + c + ")", x.luck(a, b, c), m.luck(a, b, c)); return 1; }
                case 23: if (random.nextInt(3) == 0) { same("image()", x.image(), m.image()); } else if (random.nextInt(3) == 0) { same("restore()", x.restore(), m.restore()); } return 1;
                case 24: case 25: return whence();
                case 26: { int a = n(1, Math.max(1, m.clerks.size())), b = n(0, 3), c = lane(b), d = n(0, 8);
                    same("film(" + a + ", " + b + ", " + c + ", " + d + ")", x.film(a, b, c, d), m.film(a, b, c, d)); return 1; }
                case 27: return sheet();
                case 28: { int a = n(0, 3), b = lane(a), c = n(0, 8); long v = value();
                    same("item(" + a + ", " + b + ", " + c + ", " + v + ")", x.item(a, b, c, v), m.item(a, b, c, v)); return 1; }
                default: { int a = n(0, 3), b = n(0, 5), c = n(0, 3), d = n(0, 5), e = n(0, 5);
                    same("copy(" + a + ", " + b + ", " + c + ", " + d + ", " + e + ")", x.copy(a, b, c, d, e), m.copy(a, b, c, d, e)); return 1; }
            }
        }

        private int sheet() {
            int a = n(0, 3);
            if (random.nextInt(6) == 0) {
                same("drop(" + a + ")", x.drop(a), m.drop(a));
            } else {
                int b = n(0, 3);
                int c = n(0, random.nextInt(2) == 0 ? 24 : 8);
                same("sheet(" + a + ", " + b + ", " + c + ")", x.sheet(a, b, c), m.sheet(a, b, c));
            }
            return 1;
        }

        private int lane(int sheet) {
            if (random.nextInt(8) == 0 || sheet < 0 || sheet > 3) {
                return n(0, 3);
            }
            return Math.max(0, m.laneOf(sheet));
        }

        private long value() {
            int low = random.nextInt(6);
            switch (random.nextInt(12)) {
                case 0: return random.nextLong();
                case 1: return low + 256L * random.nextInt(300);
                case 2: return low + 65536L * random.nextInt(300);
                case 3: return low + (1L << 32) * random.nextInt(300);
                default: return low;
            }
        }

        private int whence() {
            int sheet = n(0, 3);
            int lane = lane(sheet);
            int n = random.nextInt(4) == 0 ? n(0, 6) : n(0, 2);
            int i = n(0, 3);
            if (random.nextInt(2) == 0) {
                int likely = m.falls(random.nextInt(10), random.nextInt(30), 0);
                n = Integer.bitCount(likely);
                for (int c = 0, k = i; c < 6; c++) {
                    if ((likely >> c & 1) != 0) {
                        same("item(" + sheet + ", " + lane + ", " + k + ", " + c + ")", x.item(sheet, lane, k, c), m.item(sheet, lane, k, c));
                        k++;
                    }
                }
            }
            for (int what = 0; what < 2; what++) {
                same("whence(" + sheet + ", " + lane + ", " + i + ", " + n + ", " + what + ")", x.whence(sheet, lane, i, n, what), m.whence(sheet, lane, i, n, what));
            }
            int what = n(0, 1);
            same("whence(" + sheet + ", " + lane + ", " + i + ", " + n + ", " + what + ")", x.whence(sheet, lane, i, n, what), m.whence(sheet, lane, i, n, what));
            return 9;
        }

        private int seats() {
            int desk = n(0, 9);
            int g = force();
            same("seats(" + desk + ", " + g + ", -4)", x.seats(desk, g, -4), m.seats(desk, g, -4));
            int c = clerk();
            same("seats(" + desk + ", " + g + ", " + c + ")", x.seats(desk, g, c), m.seats(desk, g, c));
            return 2;
        }

        private int office() {
            if (random.nextInt(3) == 0) {
                same("office()", x.office(), m.office());
                return 1;
            }
            String text = randomOffice();
            for (int k = 0; k < text.length(); k++) {
                int letter = text.charAt(k);
                same("type(" + letter + ")", x.type(letter), m.type(letter));
            }
            same("office()", x.office(), m.office());
            return text.length() + 1;
        }

        private String randomOffice() {
            StringBuilder text = new StringBuilder();
            text.append(1 + random.nextInt(9)).append(random.nextInt(10)).append(';');
            int clerks = 1 + random.nextInt(random.nextInt(8) == 0 ? 8 : 6);
            for (int c = 0; c < clerks; c++) {
                text.append(c == 0 ? "" : ",").append("pnsco".charAt(random.nextInt(5)));
                text.append(random.nextInt(10)).append(1 + random.nextInt(random.nextInt(2) == 0 ? 9 : 3));
                if (random.nextInt(4) != 0) {
                    text.append('/').append(random.nextInt(random.nextInt(4) == 0 ? 12 : 100));
                }
                if (random.nextInt(5) == 0) {
                    text.append('x');
                }
            }
            int blanks = random.nextInt(3) == 0 ? random.nextInt(6) : 0;
            for (int k = 0; k < blanks; k++) {
                text.insert(random.nextInt(text.length() + 1), ' ');
            }
            if (random.nextInt(3) == 0) {
                spoil(text);
            }
            return text.toString();
        }

        private void spoil(StringBuilder text) {
            int place = random.nextInt(text.length());
            char letter = "pnsco0123456789;,/x ?P".charAt(random.nextInt(22));
            switch (random.nextInt(4)) {
                case 0: text.deleteCharAt(place); break;
                case 1: text.insert(place, letter); break;
                case 2: text.setCharAt(place, letter); break;
                default: text.setLength(place);
            }
        }
    }

    private static final class Clerk {
        int kind, desk, steady, ash;
        boolean smokes = true;

        Clerk(int kind, int desk, int steady) {
            this.kind = kind;
            this.desk = desk;
            this.steady = steady;
        }

        Clerk again() {
            Clerk c = new Clerk(kind, desk, steady);
            c.ash = ash;
            c.smokes = smokes;
            return c;
        }

        int holds(int minute) {
            if (!smokes) {
                return 1000;
            }
            int plain = Math.max(3 * steady - ash / 10, 0);
            int nervous = Math.max(plain - 3, 0);
            int cold = minute % 10 == 0 ? 0 : nervous;
            return new int[] {plain, nervous, plain + 5, cold, plain + 5}[kind];
        }
    }

    private static final class Moment {
        final List<Integer> ash = new ArrayList<>();
        final List<Boolean> smokes = new ArrayList<>();
        int minute;
        long draw;
    }

    private static final class Model {
        static final int BAD = -1, NOT = -2, FULL = -3, NONE = -4, NULL = -11, CAST = -12, INDEX = -13, SIZE = -14;
        static final String CLERK = "[pnsco] *[0-9] *[1-9]( */ *[0-9][0-9]?)?( *x)?";
        static final Pattern OFFICE = Pattern.compile(" *[1-9] *[0-9] *; *" + CLERK + "( *, *" + CLERK + "){0,5} *");

        List<Clerk> clerks = new ArrayList<>();
        int rate = 1, sigh = 2, minute = 0;
        long draw = 1;
        List<Moment> past = new ArrayList<>();
        StringBuilder tape = new StringBuilder();
        Object[] sheets = new Object[4];
        Model kept;

        Model again() {
            Model m = new Model();
            m.from(this);
            return m;
        }

        void from(Model o) {
            clerks = new ArrayList<>();
            for (Clerk c : o.clerks) {
                clerks.add(c.again());
            }
            rate = o.rate;
            sigh = o.sigh;
            minute = o.minute;
            draw = o.draw;
            past = new ArrayList<>(o.past);
        }

        static boolean in(int v, int low, int high) {
            return low <= v && v <= high;
        }

        boolean is(int clerk) {
            return in(clerk, 0, clerks.size() - 1);
        }

        int ashOfAll() {
            return clerks.stream().mapToInt(c -> c.ash).sum();
        }

        void minute() {
            for (Clerk c : clerks) {
                if (c.smokes && (c.kind != 4 || minute % 2 == 0)) {
                    c.ash = Math.min(99, c.ash + 1);
                }
            }
            minute++;
        }

        int shaken(int desk, int g) {
            int fell = 0;
            ArrayDeque<int[]> due = new ArrayDeque<>();
            due.add(new int[] {desk, g});
            while (!due.isEmpty()) {
                int[] shake = due.remove();
                List<Clerk> falling = new ArrayList<>();
                for (Clerk c : clerks) {
                    int comes = Math.max(0, shake[1] - 2 * Math.abs(c.desk - shake[0]));
                    if (comes > c.holds(minute) && c.ash != 0) {
                        falling.add(c);
                    }
                }
                for (Clerk c : falling) {
                    fell |= 1 << clerks.indexOf(c);
                    if (c.ash >= 10) {
                        due.add(new int[] {c.desk, sigh});
                    }
                    c.ash = 0;
                }
            }
            return fell;
        }

        void remember() {
            Moment now = new Moment();
            for (Clerk c : clerks) {
                now.ash.add(c.ash);
                now.smokes.add(c.smokes);
            }
            now.minute = minute;
            now.draw = draw;
            past.add(now);
            if (past.size() > 8) {
                past.remove(0);
            }
        }

        int clerk(int kind, int desk, int steady) {
            if (!in(kind, 0, 4) || !in(desk, 0, 9) || !in(steady, 1, 9)) return BAD;
            if (clerks.size() == 6) return FULL;
            clerks.add(new Clerk(kind, desk, steady));
            past.clear();
            return clerks.size() - 1;
        }

        int of(int clerk, int what) {
            if (!is(clerk) || !in(what, 0, 5)) return BAD;
            Clerk c = clerks.get(clerk);
            return new int[] {c.kind, c.desk, c.steady, c.ash, c.smokes ? 1 : 0, c.holds(minute)}[what];
        }

        int desk(int clerk, int desk) {
            if (!is(clerk) || !in(desk, 0, 9)) return BAD;
            int was = clerks.get(clerk).desk;
            clerks.get(clerk).desk = desk;
            return was;
        }

        int rule(int what, int v) {
            if (!in(what, 0, 1) || !in(v, 1 - what, 9)) return BAD;
            int was = what == 0 ? rate : sigh;
            if (what == 0) rate = v; else sigh = v;
            return was;
        }

        int type(int letter) {
            if (!in(letter, 32, 126)) return BAD;
            if (tape.length() == 70) return FULL;
            return tape.append((char) letter).length();
        }

        int office() {
            String text = tape.toString();
            tape.setLength(0);
            for (int end = 1; end <= text.length(); end++) {
                Matcher start = OFFICE.matcher(text.substring(0, end));
                if (!start.matches() && !start.hitEnd()) return -20 - (end - 1);
            }
            if (!OFFICE.matcher(text).matches()) return -20 - text.length();
            String bare = text.replace(" ", "");
            rate = bare.charAt(0) - '0';
            sigh = bare.charAt(1) - '0';
            minute = 0;
            past.clear();
            clerks.clear();
            for (String one : bare.substring(3).split(",")) {
                Clerk c = new Clerk("pnsco".indexOf(one.charAt(0)), one.charAt(1) - '0', one.charAt(2) - '0');
                c.smokes = !one.endsWith("x");
                String ash = one.substring(3).replace("/", "").replace("x", "");
                c.ash = ash.isEmpty() ? 0 : Integer.parseInt(ash);
                clerks.add(c);
            }
            return clerks.size();
        }

        int count(int what) {
            if (!in(what, 0, 7)) return BAD;
            int smoke = 0;
            int ash = 0;
            for (int c = 0; c < clerks.size(); c++) {
                smoke += clerks.get(c).smokes ? 1 << c : 0;
                ash += clerks.get(c).ash != 0 ? 1 << c : 0;
            }
            return new int[] {clerks.size(), minute, rate, sigh, rate * ashOfAll(), smoke, ash, past.size()}[what];
        }

        int minutes(int n) {
            if (!in(n, 1, 60)) return BAD;
            if (minute + n > 9999) return FULL;
            for (int k = 0; k < n; k++) {
                remember();
                minute();
            }
            return rate * ashOfAll();
        }

        int shake(int desk, int g) {
            if (!in(desk, 0, 9) || !in(g, 0, 99)) return BAD;
            remember();
            return shaken(desk, g);
        }

        int lay(int clerk) {
            if (!is(clerk)) return BAD;
            if (!clerks.get(clerk).smokes) return NOT;
            remember();
            clerks.get(clerk).smokes = false;
            return clerks.get(clerk).ash;
        }

        int light(int clerk) {
            if (!is(clerk)) return BAD;
            if (clerks.get(clerk).smokes) return NOT;
            remember();
            clerks.get(clerk).smokes = true;
            return clerks.get(clerk).ash;
        }

        int drift(int n) {
            if (!in(n, 1, 60)) return BAD;
            if (minute + n > 9999) return FULL;
            for (int k = 0; k < n; k++) {
                remember();
                minute();
                draw = (draw * 1103515245L + 12345L) % (1L << 31);
                if (draw / 65536 % 5 == 0) {
                    shaken((int) (draw / 128 % 10), (int) (draw / 1024 % 20));
                }
            }
            return rate * ashOfAll();
        }

        int undo() {
            if (past.isEmpty()) return NONE;
            Moment then = past.remove(past.size() - 1);
            for (int c = 0; c < clerks.size(); c++) {
                clerks.get(c).ash = then.ash.get(c);
                clerks.get(c).smokes = then.smokes.get(c);
            }
            minute = then.minute;
            draw = then.draw;
            return past.size();
        }

        int seed(int v) {
            if (v < 0) return BAD;
            long was = draw;
            draw = v;
            return (int) was;
        }

        int ahead(int clerk, int n) {
            if (!is(clerk) || !in(n, 0, 120)) return BAD;
            Model then = again();
            for (int k = 0; k < n; k++) then.minute();
            return then.clerks.get(clerk).ash;
        }

        int pay(int n) {
            if (!in(n, 0, 120)) return BAD;
            int all = 0;
            for (int c = 0; c < clerks.size(); c++) all += ahead(c, n);
            return rate * all;
        }

        int falls(int desk, int g, int what) {
            if (!in(desk, 0, 9) || !in(g, 0, 99) || !in(what, 0, 1)) return BAD;
            Model then = again();
            int fell = then.shaken(desk, g);
            return what == 0 ? fell : rate * (ashOfAll() - then.ashOfAll());
        }

        int worst(int g, int what) {
            if (!in(g, 0, 99) || !in(what, 0, 1)) return BAD;
            int at = 9;
            for (int d = 8; d >= 0; d--) {
                if (falls(d, g, 1) >= falls(at, g, 1)) at = d;
            }
            return what == 0 ? at : falls(at, g, 1);
        }

        int enough(int desk, int k) {
            if (!in(desk, 0, 9) || !in(k, 1, 6)) return BAD;
            int g = 0;
            while (g < 100 && Integer.bitCount(falls(desk, g, 0)) < k) g++;
            return g < 100 ? g : NONE;
        }

        int seats(int desk, int g, int clerk) {
            if (!in(desk, 0, 9) || !in(g, 0, 99) || clerk != NONE && !is(clerk)) return BAD;
            List<int[]> orders = new ArrayList<>();
            orders(new int[clerks.size()], 0, orders);
            int[] best = null;
            int least = Integer.MAX_VALUE;
            for (int[] order : orders) {
                Model then = again();
                for (int c = 0; c < order.length; c++) then.clerks.get(c).desk = clerks.get(order[c]).desk;
                int lost = then.falls(desk, g, 1);
                if (lost < least) {
                    least = lost;
                    best = order;
                }
            }
            return clerk == NONE ? least : best[clerk];
        }

        void orders(int[] order, int filled, List<int[]> all) {
            if (filled == order.length) {
                all.add(order.clone());
                return;
            }
            for (int c = 0; c < order.length; c++) {
                boolean free = true;
                for (int k = 0; k < filled; k++) free &= order[k] != c;
                if (free) {
                    order[filled] = c;
                    orders(order, filled + 1, all);
                }
            }
        }

        int stop(int clerk, int desk, int g, int p, int what) {
            if (!is(clerk) || !in(desk, 0, 9) || !in(g, 0, 99) || !in(p, 1, 60) || !in(what, 0, 1)) return BAD;
            int[] long60 = new int[61];
            Model then = again();
            for (int t = 0; t <= 60; t++) {
                if (t > 0) then.minute();
                if (t > 0 && t % p == 0) then.shaken(desk, g);
                long60[t] = then.clerks.get(clerk).ash;
            }
            int most = Arrays.stream(long60).max().getAsInt();
            int first = 0;
            while (long60[first] != most) first++;
            return what == 0 ? first : most;
        }

        int luck(int clerk, int c, int what) {
            if (!is(clerk) || !in(c, 0, 10) || !in(what, 0, 1)) return BAD;
            BigInteger above = waysToFall(again(), clerk, c, 0, false);
            BigInteger below = BigInteger.TEN.pow(clerks.size() - 1);
            BigInteger common = above.gcd(below);
            return (what == 0 ? above : below).divide(common).intValueExact();
        }

        BigInteger waysToFall(Model then, int clerk, int c, int next, boolean fell) {
            if (next == clerks.size()) return fell ? BigInteger.ONE : BigInteger.ZERO;
            if (next == clerk) return waysToFall(then, clerk, c, next + 1, fell);
            Model laughs = then.again();
            int by = laughs.shaken(clerks.get(next).desk, 9);
            BigInteger if1 = waysToFall(laughs, clerk, c, next + 1, fell || (by >> clerk & 1) == 1);
            BigInteger if0 = waysToFall(then, clerk, c, next + 1, fell);
            return if1.multiply(BigInteger.valueOf(c)).add(if0.multiply(BigInteger.valueOf(10 - c)));
        }

        int image() {
            kept = again();
            return 1;
        }

        int restore() {
            if (kept == null) return NONE;
            from(kept);
            return 1;
        }

        int laneOf(int sheet) {
            Object row = sheets[sheet];
            return row instanceof byte[] ? 0 : row instanceof short[] ? 1 : row instanceof int[] ? 2 : row instanceof long[] ? 3 : -1;
        }

        /** Takes a sheet as a row of a lane, as the machine does: null passes a cast. */
        Object as(int sheet, int lane) {
            Object row = sheets[sheet];
            switch (lane) {
                case 0: return (byte[]) row;
                case 1: return (short[]) row;
                case 2: return (int[]) row;
                default: return (long[]) row;
            }
        }

        static Object row(int lane, int n) {
            switch (lane) {
                case 0: return new byte[n];
                case 1: return new short[n];
                case 2: return new int[n];
                default: return new long[n];
            }
        }

        static void put(Object row, int i, long v) {
            if (row instanceof byte[]) ((byte[]) row)[i] = (byte) v;
            else if (row instanceof short[]) ((short[]) row)[i] = (short) v;
            else if (row instanceof int[]) ((int[]) row)[i] = (int) v;
            else ((long[]) row)[i] = v;
        }

        int whence(int sheet, int lane, int i, int n, int what) {
            if (!in(sheet, 0, 3) || !in(lane, 0, 3) || !in(n, 0, 6) || !in(what, 0, 1)) return BAD;
            Object items = row(lane, n);
            try {
                System.arraycopy(as(sheet, lane), i, items, 0, n);
            } catch (NullPointerException e) {
                return NULL;
            } catch (ClassCastException e) {
                return CAST;
            } catch (IndexOutOfBoundsException e) {
                return INDEX;
            }
            int told = 0;
            for (int k = 0; k < n; k++) {
                long c = Array.getLong(items, k);
                if (c < 0 || c >= clerks.size() || (told >> c & 1) == 1) return NOT;
                told |= 1 << c;
            }
            int ways = 0;
            int first = NONE;
            for (int way = 399; way >= 0; way--) {
                if (falls(way / 40, way % 40 + 1, 0) == told) {
                    ways++;
                    first = way / 40 * 100 + way % 40 + 1;
                }
            }
            return what == 0 ? ways : first;
        }

        int film(int n, int sheet, int lane, int i) {
            if (!in(n, 1, clerks.size()) || !in(sheet, 0, 3) || !in(lane, 0, 3)) return BAD;
            Object items = row(lane, n);
            for (int k = 0; k < n; k++) put(items, k, clerks.get(k).ash);
            try {
                System.arraycopy(items, 0, as(sheet, lane), i, n);
            } catch (NullPointerException e) {
                return NULL;
            } catch (ClassCastException e) {
                return CAST;
            } catch (IndexOutOfBoundsException e) {
                return INDEX;
            }
            return n;
        }

        int sheet(int sheet, int lane, int n) {
            if (!in(sheet, 0, 3) || !in(lane, 0, 3) || n > 24) return BAD;
            try {
                sheets[sheet] = row(lane, n);
            } catch (NegativeArraySizeException e) {
                return SIZE;
            }
            return n;
        }

        int drop(int sheet) {
            if (!in(sheet, 0, 3)) return BAD;
            if (sheets[sheet] == null) return NULL;
            int had = Array.getLength(sheets[sheet]);
            sheets[sheet] = null;
            return had;
        }

        int item(int sheet, int lane, int i, long v) {
            if (!in(sheet, 0, 3) || !in(lane, 0, 3)) return BAD;
            try {
                Object row = as(sheet, lane);
                if (row == null) return NULL;
                put(row, i, v);
            } catch (ClassCastException e) {
                return CAST;
            } catch (ArrayIndexOutOfBoundsException e) {
                return INDEX;
            }
            return 1;
        }

        int copy(int from, int i, int to, int j, int n) {
            if (!in(from, 0, 3) || !in(to, 0, 3)) return BAD;
            try {
                System.arraycopy(sheets[from], i, sheets[to], j, n);
            } catch (NullPointerException e) {
                return NULL;
            } catch (ArrayStoreException e) {
                return CAST;
            } catch (IndexOutOfBoundsException e) {
                return INDEX;
            }
            return n;
        }
    }
}
