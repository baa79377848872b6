import java.util.function.Supplier;

/** Promises 9 to 15, and UNDONE and DRIFT of part 3: what stands on the edge of each of their sentences. */
public final class DoneEdgeTest {
    private static final Edges edges = new Edges();
    private static final int BAD = Edges.BAD, NOT = Edges.NOT, FULL = Edges.FULL, NONE = Edges.NONE;
    private static final int MAX = Edges.MAX, MIN = Edges.MIN;

    public static void main(String[] args) throws Exception {
        edges.runAll(DoneEdgeTest.class);
    }

    // ---- promise 9: "n MINUTES (1 .. 60): PAY of all. BAD; FULL: the MINUTE would be above 9999"

    private static void promise09OneToSixtyMinutes() {
        edges.bounds("minutes", 1, 60, Edges::three, (x, v) -> x.minutes(v));
        AshClerks x = Due.with("22;p01");
        edges.is("1", x.minutes(1), 2);
        edges.is("60", x.minutes(60), 122);
        edges.is("the minute", x.count(1), 61);
    }

    private static void promise09UpToMinute9999() {
        Supplier<AshClerks> late = () -> Edges.atMinute(9939);
        edges.is("60 up to 9999", late.get().minutes(60), 198);
        AshClerks x = Edges.atMinute(9940);
        edges.is("59 up to 9999", x.minutes(59), 198);
        edges.is("the minute", x.count(1), 9999);
        edges.refused("60 up to 10000", FULL, () -> Edges.atMinute(9940), y -> y.minutes(60));
        edges.is("1 up to 9999", Edges.atMinute(9998).minutes(1), 198);
        edges.refused("2 up to 10000", FULL, () -> Edges.atMinute(9998), y -> y.minutes(2));
        edges.refused("1 more", FULL, () -> Edges.atMinute(9999), y -> y.minutes(1));
        edges.refused("60 more", FULL, () -> Edges.atMinute(9999), y -> y.minutes(60));
    }

    private static void promise09RoomAgainBehindUndoneOrAnOffice() {
        AshClerks x = Edges.atMinute(9999);
        edges.is("full", x.minutes(1), FULL);
        x.undo();
        edges.is("undone", x.minutes(1), 198);
        edges.is("full", x.minutes(1), FULL);
        Due.office(x, "12;p01");
        edges.is("an office", x.minutes(60), 60);
    }

    private static void promise09EachMinuteMayBeUndone() {
        AshClerks x = Due.with("12;p01");
        x.minutes(7);
        edges.is("seven", x.count(7), 7);
        x.minutes(1);
        edges.is("eight", x.count(7), 8);
        x.minutes(1);
        edges.is("a ninth", x.count(7), 8);
        edges.is("undone", x.undo(), 7);
        edges.is("one minute less", x.of(0, 3), 8);
    }

    // ---- promise 10: "A SHAKE of g (0 .. 99) at a DESK: whose ASH FELL (a set). BAD"

    private static void promise10AForceOfNoughtTo99() {
        edges.bounds("force", 0, 99, Edges::three, (x, v) -> x.shake(0, v));
        edges.bounds("force at the last desk", 0, 99, Edges::six, (x, v) -> x.shake(9, v));
        edges.bounds("desk", 0, 9, Edges::six, (x, v) -> x.shake(v, 99));
    }

    private static void promise10WhatFallsAndWhatHolds() {
        AshClerks x = Due.with("10;s09/5,s99/5");
        edges.is("as much as it holds", x.shake(0, 32), 0);
        edges.is("one more", x.shake(0, 33), 1);
        edges.is("as much as it holds, nine desks off", x.shake(0, 50), 0);
        edges.is("one more, nine desks off", x.shake(0, 51), 2);
        edges.is("of nothing", x.shake(0, 99), 0);
        edges.is("each is a step", x.count(7), 5);
    }

    private static void promise10AShakeThatMovesNothingIsAStep() {
        AshClerks x = Due.with("12;p01/5");
        edges.is("of 0", x.shake(0, 0), 0);
        edges.is("one may be undone", x.count(7), 1);
        edges.is("undone", x.undo(), 0);
        edges.is("ash", x.of(0, 3), 5);
    }

    // ---- promise 11: "LAID: ASH. BAD; NOT: it is"

    private static void promise11LaidOnce() {
        AshClerks x = Due.with("12;p01,p01/99");
        edges.is("ash 0", x.lay(0), 0);
        edges.is("ash 99", x.lay(1), 99);
        edges.is("it is", x.lay(0), NOT);
        edges.is("it is", x.lay(1), NOT);
        edges.is("two steps", x.count(7), 2);
        edges.refused("laid down already", NOT, Edges::three, y -> y.lay(1));
        edges.refused("laid down by an office", NOT, Edges::six, y -> y.lay(5));
    }

    private static void promise11NoSuchClerk() {
        edges.bounds("clerk of three", 0, 2, Edges::three, (x, v) -> x.lay(v));
        edges.bounds("clerk of six", 0, 5, Edges::six, (x, v) -> x.lay(v));
        edges.refused("nobody", BAD, Edges::nobody, x -> x.lay(0));
    }

    private static void promise11BehindUndoneItMayBeLaidAgain() {
        AshClerks x = Due.with("12;p01/7");
        x.lay(0);
        x.undo();
        edges.is("again", x.lay(0), 7);
        edges.is("one step", x.count(7), 1);
    }

    // ---- promise 12: "LIT: ASH. BAD; NOT: it SMOKES"

    private static void promise12LitOnce() {
        AshClerks x = Due.with("12;p01x,p01/99x");
        edges.is("ash 0", x.light(0), 0);
        edges.is("ash 99", x.light(1), 99);
        edges.is("it smokes", x.light(0), NOT);
        edges.is("it smokes", x.light(1), NOT);
        edges.is("two steps", x.count(7), 2);
        edges.refused("it smokes", NOT, Edges::three, y -> y.light(0));
        edges.refused("it was lit", NOT, Edges::three, y -> y.light(2));
    }

    private static void promise12NoSuchClerk() {
        edges.bounds("clerk of three", 0, 2, Edges::three, (x, v) -> x.light(v));
        edges.bounds("clerk of six", 0, 5, Edges::six, (x, v) -> x.light(v));
        edges.refused("nobody", BAD, Edges::nobody, x -> x.light(0));
    }

    private static void promise12AClerkSmokesAtFirst() {
        AshClerks x = new AshClerks();
        x.clerk(0, 0, 1);
        edges.is("it smokes", x.light(0), NOT);
        edges.is("laid", x.lay(0), 0);
        edges.is("lit", x.light(0), 0);
    }

    // ---- promise 13: "A DRIFT of n MINUTES (1 .. 60; each with its SHAKE one that may be UNDONE): PAY. BAD; FULL: likewise"

    private static void promise13OneToSixtyMinutes() {
        edges.bounds("drift", 1, 60, Edges::three, (x, v) -> x.drift(v));
        AshClerks x = new AshClerks();
        edges.is("1", x.drift(1), 0);
        edges.is("60", x.drift(60), 0);
        edges.is("the minute", x.count(1), 61);
    }

    private static void promise13UpToMinute9999() {
        AshClerks x = Edges.atMinute(9939);
        edges.holds("60 up to 9999", x.drift(60) >= 0);
        edges.is("the minute", x.count(1), 9999);
        edges.refused("60 up to 10000", FULL, () -> Edges.atMinute(9940), y -> y.drift(60));
        edges.holds("1 up to 9999", Edges.atMinute(9998).drift(1) >= 0);
        edges.refused("2 up to 10000", FULL, () -> Edges.atMinute(9998), y -> y.drift(2));
        edges.refused("1 more", FULL, () -> Edges.atMinute(9999), y -> y.drift(1));
    }

    private static void promise13EachMinuteWithItsShakeIsOneStep() {
        int draw = Edges.drawOf(0, 0, 19, 5);
        AshClerks x = Due.with("12;p51/8");
        x.seed(Edges.seedFor(draw));
        edges.is("its ash fell", x.drift(1), 0);
        edges.is("one step", x.count(7), 1);
        edges.is("undone with its shake", x.undo(), 0);
        edges.is("the ash", x.of(0, 3), 8);
        edges.is("the minute", x.count(1), 0);
        edges.is("the draw", x.seed(1), Edges.seedFor(draw));
        x.drift(8);
        edges.is("eight", x.count(7), 8);
        x.drift(1);
        edges.is("a ninth", x.count(7), 8);
    }

    // ---- promise 14: "UNDONE: how many more may be. NONE: none is known"

    private static void promise14NoneIsKnown() {
        edges.refused("on a new object", NONE, AshClerks::new, x -> x.undo());
        edges.refused("behind an office", NONE, () -> Due.with("12;p01/5"), x -> x.undo());
        edges.refused("behind the last", NONE, () -> {
            AshClerks x = Edges.three();
            for (int k = 0; k < 7; k++) {
                x.undo();
            }
            return x;
        }, x -> x.undo());
    }

    private static void promise14HowManyMoreMayBe() {
        AshClerks x = Edges.three();
        for (int left = 6; left >= 0; left--) {
            edges.is("undone", x.undo(), left);
            edges.is("known", x.count(7), left);
        }
        edges.is("none", x.undo(), NONE);
        edges.is("none is known", x.count(7), 0);
    }

    private static void promise14WhatIsUndoneIsNoStep() {
        AshClerks x = Due.with("12;p01");
        x.minutes(2);
        x.undo();
        x.minutes(1);
        edges.is("two are known", x.count(7), 2);
        x.undo();
        x.undo();
        edges.is("minute 0", x.count(1), 0);
    }

    // ---- promise 15: "THE DRAW becomes v: what it was. BAD: below 0"

    private static void promise15FromNoughtOn() {
        AshClerks x = new AshClerks();
        edges.is("it was 1", x.seed(0), 1);
        edges.is("it was 0", x.seed(MAX), 0);
        edges.is("it was the most", x.seed(1), MAX);
        edges.refused("-1", BAD, Edges::three, y -> y.seed(-1));
        edges.refused("the least", BAD, Edges::three, y -> y.seed(MIN));
        edges.refused("-1 on a new object", BAD, AshClerks::new, y -> y.seed(-1));
    }

    private static void promise15IsNothingToBeUndone() {
        AshClerks x = new AshClerks();
        x.seed(5);
        edges.is("none is known", x.undo(), NONE);
        edges.is("it stays", x.seed(1), 5);
    }

    // ---- part 3: "UNDONE: the latest MINUTE, SHAKE, LAID, LIT is as it had not been (8 are known, older ones lost)"

    private static void part3UndoneOneOfEachKind() {
        eachIsUndone("a minute", x -> x.minutes(1));
        eachIsUndone("a shake", x -> x.shake(0, 99));
        eachIsUndone("laid", x -> x.lay(0));
        eachIsUndone("lit", x -> x.light(1));
        eachIsUndone("a minute of a drift", x -> x.drift(1));
    }

    private static void eachIsUndone(String what, Edges.Call step) {
        edges.is(what + " is a step", knownBehind(step), 8);
        edges.noTrace(what + ", undone,", Edges::three, x -> {
            step.on(x);
            return x.undo();
        });
    }

    private static int knownBehind(Edges.Call step) {
        AshClerks x = Edges.three();
        step.on(x);
        return x.count(7);
    }

    private static void part3UndoneEightAreKnown() {
        for (int steps = 7; steps <= 17; steps++) {
            AshClerks x = Due.with("12;p01");
            for (int k = 0; k < steps; k++) {
                x.minutes(1);
            }
            int known = Math.min(steps, 8);
            edges.is("known of " + steps, x.count(7), known);
            for (int k = 1; k <= known; k++) {
                edges.is("undone " + k + " of " + steps, x.undo(), known - k);
                edges.is("ash", x.of(0, 3), steps - k);
                edges.is("minute", x.count(1), steps - k);
            }
            edges.is("older ones are lost, of " + steps, x.undo(), NONE);
            edges.is("ash", x.of(0, 3), steps - known);
        }
    }

    private static void part3UndoneEightOfUnlikeKinds() {
        AshClerks x = Due.with("12;p01/30,n91/40");
        String[] was = new String[9];
        Edges.Call[] steps = {y -> y.shake(9, 1), y -> y.minutes(1), y -> y.lay(0), y -> y.drift(1), y -> y.shake(0, 99),
            y -> y.light(0), y -> y.drift(1), y -> y.lay(1), y -> y.shake(0, 50)};
        for (int k = 0; k < 9; k++) {
            was[k] = ashSmokeMinuteDraw(x);
            steps[k].on(x);
        }
        for (int k = 8; k >= 1; k--) {
            edges.is("undone", x.undo(), k - 1);
            edges.holds("as ahead of step " + k, was[k].equals(ashSmokeMinuteDraw(x)));
        }
        edges.is("the first of nine is lost", x.undo(), NONE);
        edges.holds("as ahead of step 1", was[1].equals(ashSmokeMinuteDraw(x)));
    }

    private static String ashSmokeMinuteDraw(AshClerks x) {
        int draw = x.seed(0);
        x.seed(draw);
        return x.of(0, 3) + " " + x.of(1, 3) + " " + x.count(5) + " " + x.count(1) + " " + draw;
    }

    private static void part3UndoneWhateverWasToldSince() {
        AshClerks x = Due.with("12;p01/20,o91");
        x.seed(40);
        x.minutes(1);
        x.seed(0);
        x.desk(0, 9);
        x.desk(1, 0);
        x.rule(0, 9);
        x.rule(1, 0);
        edges.is("told since is no step", x.count(7), 1);
        edges.is("undone", x.undo(), 0);
        edges.are("of 0", x, (y, v) -> y.of(0, v), 0, 9, 1, 20, 1, 1);
        edges.are("of 1", x, (y, v) -> y.of(1, v), 4, 0, 1, 0, 1, 8);
        edges.is("minute 0", x.count(1), 0);
        edges.is("rate stays", x.count(2), 9);
        edges.is("sigh stays", x.count(3), 0);
        edges.is("the draw", x.seed(1), 40);
    }

    private static void part3UndoneRefusedStepsAreNone() {
        AshClerks x = Due.with("12;p01x,n01");
        x.minutes(0);
        x.minutes(61);
        x.shake(10, 5);
        x.shake(0, 100);
        x.lay(0);
        x.light(1);
        x.lay(2);
        x.light(2);
        x.drift(0);
        x.drift(61);
        edges.is("none is known", x.count(7), 0);
        edges.is("undone", x.undo(), NONE);
    }

    // ---- part 3: "DRIFT by a seed: THE DRAW is a number of 31 bits (1 at first) .."

    private static int drawBehind(int seed) {
        AshClerks x = new AshClerks();
        x.seed(seed);
        x.drift(1);
        return x.seed(0);
    }

    private static void part3DriftTheDrawHas31Bits() {
        edges.is("from 0", drawBehind(0), 12345);
        edges.is("from 1", drawBehind(1), 1103527590);
        edges.is("from 2", drawBehind(2), 2207042835L % (1L << 31));
        edges.is("from the most", drawBehind(MAX), (2147483647L * 1103515245L + 12345L) % (1L << 31));
        edges.is("to 0", drawBehind(Edges.seedFor(0)), 0);
        edges.is("to the most", drawBehind(Edges.seedFor(MAX)), MAX);
        edges.is("to 2 to the 30", drawBehind(Edges.seedFor(1L << 30)), 1L << 30);
    }

    private static void part3DriftOnlyADriftDraws() {
        AshClerks x = Due.with("12;p01");
        x.minutes(60);
        x.shake(0, 9);
        x.lay(0);
        x.light(0);
        edges.is("the draw is 1", x.seed(1), 1);
    }

    /** The ash of a clerk behind one minute of a drift that draws this. */
    private static int ashBehind(String clerk, int draw) {
        AshClerks x = Due.with("12;" + clerk);
        x.seed(Edges.seedFor(draw));
        x.drift(1);
        edges.is("the draw", x.seed(1), draw);
        return x.of(0, 3);
    }

    private static void part3DriftShakesIfNoughtIsLeftOverByFive() {
        for (int from : new int[] {0, 900000000, 1800000000}) {
            for (int by5 = 0; by5 < 5; by5++) {
                int draw = Edges.drawOf(from, by5, 19, 3);
                edges.is("left over " + by5, ashBehind("p31/5", draw), by5 == 0 ? 0 : 6);
            }
        }
    }

    private static void part3DriftForcesAreNoughtToNineteen() {
        for (int from : new int[] {0, 900000000, 1800000000}) {
            // steady by 6 with less than 10 ash holds 18, as much as a force of 18
            edges.is("19 is more than 18", ashBehind("p56/5", Edges.drawOf(from, 0, 19, 5)), 0);
            edges.is("18 is not", ashBehind("p56/5", Edges.drawOf(from, 0, 18, 5)), 6);
            edges.is("1 is more than 0", ashBehind("n51/5", Edges.drawOf(from, 0, 1, 5)), 0);
            edges.is("0 is not", ashBehind("n51/5", Edges.drawOf(from, 0, 0, 5)), 6);
        }
    }

    private static void part3DriftDesksAreNoughtToNine() {
        for (int from : new int[] {0, 900000000, 1800000000}) {
            for (int desk = 0; desk <= 9; desk++) {
                // no draw has a force of 19 at desks 0 and 1; steady by 6 with 10 ash holds 17, with less 18
                String rest = desk < 2 ? "6/9" : "6/5";
                int stands = desk < 2 ? 10 : 6;
                int draw = Edges.drawOf(from, 0, desk < 2 ? 18 : 19, desk);
                edges.is("at desk " + desk, ashBehind("p" + desk + rest, draw), 0);
                edges.is("a desk off", ashBehind("p" + (desk == 0 ? 1 : desk - 1) + rest, draw), stands);
                edges.is("a desk off", ashBehind("p" + (desk == 9 ? 8 : desk + 1) + rest, draw), stands);
            }
        }
    }

    private static void part3DriftShakesBehindTheMinute() {
        int draw = Edges.drawOf(0, 0, 1, 0);
        edges.is("ash of the minute falls", ashBehind("n01", draw), 0);
        AshClerks x = Due.with("12;c09");
        x.seed(Edges.seedFor(draw));
        edges.is("cold holds in minute 1", x.drift(1), 1);
        x.minutes(8);
        x.seed(Edges.seedFor(draw));
        edges.is("not in minute 10", x.drift(1), 0);
    }

    private static void part3DriftOfManyIsManyOfOne() {
        AshClerks x = Due.with("92;p01/20,n22/15,s41/40,c63/30,o82/30");
        AshClerks y = Due.with("92;p01/20,n22/15,s41/40,c63/30,o82/30");
        for (int hour = 0; hour < 3; hour++) {
            int pay = x.drift(60);
            int last = 0;
            for (int k = 0; k < 60; k++) {
                last = y.drift(1);
            }
            edges.is("pay", pay, last);
            edges.holds("all else", Due.state(x).equals(Due.state(y)));
        }
    }
}
