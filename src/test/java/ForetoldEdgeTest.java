/** Promises 16 to 25, and part 2: what stands on the edge of each of their sentences. */
public final class ForetoldEdgeTest {
    private static final Edges edges = new Edges();
    private static final int BAD = Edges.BAD, NONE = Edges.NONE, NULL = Edges.NULL, INDEX = Edges.INDEX;

    public static void main(String[] args) throws Exception {
        edges.runAll(ForetoldEdgeTest.class);
    }

    // ---- part 2: "behind n MINUTES (0 .. 120; no SHAKES) ASH of one; PAY of all"

    private static void part2BehindNoughtTo120Minutes() {
        AshClerks x = Due.with("32;p01,o01,p01/7x");
        edges.is("ash behind 0", x.ahead(0, 0), 0);
        edges.is("ash behind 1", x.ahead(0, 1), 1);
        edges.is("ash behind 98", x.ahead(0, 98), 98);
        edges.is("ash behind 99", x.ahead(0, 99), 99);
        edges.is("ash behind 100", x.ahead(0, 100), 99);
        edges.is("ash behind 120", x.ahead(0, 120), 99);
        edges.is("ash of an old one behind 119", x.ahead(1, 119), 60);
        edges.is("ash of an old one behind 120", x.ahead(1, 120), 60);
        edges.is("of one that is laid down", x.ahead(2, 120), 7);
        edges.is("pay behind 0", x.pay(0), 21);
        edges.is("pay behind 120", x.pay(120), 3 * (99 + 60 + 7));
    }

    private static void part2BehindMinute9999() {
        AshClerks x = Edges.atMinute(9999);
        x.shake(0, 99);
        edges.is("nothing has come of it yet", x.pay(0), 0);
        edges.is("ash behind 120", x.ahead(0, 120), 99);
        edges.is("an old one, from an odd minute", x.ahead(1, 1), 0);
        edges.is("an old one, behind two", x.ahead(1, 2), 1);
        edges.is("stop", x.stop(0, 0, 0, 1, 1), 60);
    }

    private static void part2ForceIsNoughtTo99() {
        edges.bounds("falls", 0, 99, Edges::three, (x, v) -> x.falls(0, v, 0));
        edges.bounds("worst", 0, 99, Edges::three, (x, v) -> x.worst(v, 0));
        edges.bounds("seats", 0, 99, Edges::three, (x, v) -> x.seats(0, v, NONE));
        edges.bounds("stop", 0, 99, Edges::three, (x, v) -> x.stop(0, 0, v, 1, 0));
    }

    private static void part2FallsAsAShakeWould() {
        for (int desk = 0; desk <= 9; desk += 3) {
            for (int g = 0; g <= 99; g += 11) {
                AshClerks x = Edges.six();
                int set = x.falls(desk, g, 0);
                int lost = x.falls(desk, g, 1);
                int was = x.count(4);
                edges.is("whose", x.shake(desk, g), set);
                edges.is("how much", was - x.count(4), lost);
            }
        }
    }

    // ---- "WORST for g: the DESK at which a SHAKE costs most PAY, of like ones the first; how much"

    private static void part2WorstOfLikeOnesTheFirst() {
        edges.is("all of nothing", Due.with("12;p51").worst(99, 0), 0);
        edges.is("all of nothing, how much", Due.with("12;p51").worst(99, 1), 0);
        AshClerks x = Due.with("10;p21/5,p71/5");
        edges.is("two alike", x.worst(4, 0), 2);
        edges.is("how much", x.worst(4, 1), 5);
        edges.is("too weak", x.worst(3, 0), 0);
        edges.is("too weak, how much", x.worst(3, 1), 0);
        AshClerks y = Due.with("90;p21/5,p71/6");
        edges.is("the later costs more", y.worst(4, 0), 7);
        edges.is("how much", y.worst(4, 1), 54);
    }

    private static void part2WorstAtTheEnds() {
        edges.is("the first desk", Due.with("10;p01/5").worst(4, 0), 0);
        edges.is("the last desk", Due.with("10;p91/5").worst(4, 0), 9);
        edges.is("a desk off is enough", Due.with("10;p91/5").worst(6, 0), 8);
        edges.is("the most", Due.with("90;p01/99,p11/99,p21/99,p31/99,p41/99,p51/99").worst(99, 1), 5346);
    }

    // ---- "ENOUGH for a DESK, k (1 .. 6): the least g (0 .. 99) by which the ASH of k or more FALLS; none"

    private static void part2EnoughTheLeastForce() {
        edges.is("one that holds nothing", Due.with("12;n01/1").enough(0, 1), 1);
        edges.is("one that holds most, farthest off", Due.with("12;s99/1").enough(0, 1), 51);
        edges.is("the other way round", Due.with("12;s09/1").enough(9, 1), 51);
        edges.is("by less it does not fall", Due.with("12;s99/1").falls(0, 50, 0), 0);
    }

    private static void part2EnoughForKOrMore() {
        AshClerks x = Due.with("10;n01/1,n01/1,n11/1,n21/1,n31/1,n41/1");
        int[] least = {1, 1, 3, 5, 7, 9};
        for (int k = 1; k <= 6; k++) {
            edges.is("for " + k, x.enough(0, k), least[k - 1]);
        }
    }

    private static void part2EnoughNone() {
        edges.is("nobody", new AshClerks().enough(0, 1), NONE);
        edges.is("no ash", Due.with("12;n01").enough(0, 1), NONE);
        edges.is("laid down", Due.with("12;n01/50x").enough(0, 1), NONE);
        AshClerks x = Due.with("12;n01/1,n01/1,n01/1,n01/1,n01/1,n01");
        edges.is("five of six", x.enough(0, 5), 1);
        edges.is("six of six", x.enough(0, 6), NONE);
    }

    // ---- "SEATS for a DESK, g: .. changed among themselves, so that a SHAKE of g there costs least PAY, .. the first"

    private static void part2SeatsOfLikeOnesTheFirst() {
        AshClerks x = Due.with("12;p01,p11,p21,p31,p41,p51");
        edges.are("as they are, if nothing falls", x, (y, v) -> y.seats(0, 99, v), 0, 1, 2, 3, 4, 5);
        edges.is("nothing is lost", x.seats(0, 99, NONE), 0);
        AshClerks all = Due.with("10;n01/5,n11/5,n21/5,n31/5,n41/5,n51/5");
        edges.are("as they are, if all falls", all, (y, v) -> y.seats(0, 99, v), 0, 1, 2, 3, 4, 5);
        edges.is("all is lost", all.seats(0, 99, NONE), 30);
    }

    private static void part2SeatsTheFirstOfThoseThatCostLeast() {
        // only the nervous one falls by 2, and only at desk 0
        AshClerks x = Due.with("10;n01/5,p01/9,p12/5,p13/5");
        edges.is("how much", x.seats(0, 2, NONE), 0);
        edges.are("whose desk", x, (y, v) -> y.seats(0, 2, v), 2, 0, 1, 3);
        // by 4 it falls anywhere, and the next one at desk 0
        edges.is("how much", x.seats(0, 4, NONE), 5);
        edges.are("whose desk", x, (y, v) -> y.seats(0, 4, v), 0, 2, 1, 3);
    }

    private static void part2SeatsTheLastOrder() {
        // they hold 0, 3, 5, 7, 9, 11, and a force of 10 comes as 10, 8, 6, 4, 2, 0: none but the last of 720 orders will do
        AshClerks x = Due.with("10;n01/5,p11/5,p22/10,p33/20,p43/5,p54/10");
        edges.is("how much", x.seats(0, 10, NONE), 0);
        edges.are("whose desk", x, (y, v) -> y.seats(0, 10, v), 5, 4, 3, 2, 1, 0);
    }

    private static void part2SeatsOfOneAndOfTwoAtOneDesk() {
        AshClerks one = Due.with("12;n91/50");
        edges.is("one has its own", one.seats(9, 99, 0), 0);
        edges.is("it costs", one.seats(9, 99, NONE), 50);
        AshClerks two = Due.with("10;n01/50,p09/50");
        edges.are("two at one desk, as they are", two, (y, v) -> y.seats(0, 3, v), 0, 1);
        edges.is("it costs", two.seats(0, 3, NONE), 50);
    }

    private static void part2SeatsChangeNothing() {
        AshClerks x = Due.with("12;n01/50,s91/5");
        edges.is("changed", x.seats(0, 5, 0), 1);
        edges.is("its desk stays", x.of(0, 1), 0);
        edges.is("the other's, too", x.of(1, 1), 9);
    }

    // ---- "STOP for one, a DESK, g, p (1 .. 60): .. behind how many MINUTES (0 .. 60 ..) its ASH is longest, .. the first"

    private static void stopIs(String what, AshClerks x, int g, int p, int when, int longest) {
        edges.is(what + ": behind how many", x.stop(0, 0, g, p, 0), when);
        edges.is(what + ": how long", x.stop(0, 0, g, p, 1), longest);
    }

    private static void part2StopWithinSixtyMinutes() {
        stopIs("nothing falls, from 0", Due.with("12;p01"), 0, 1, 60, 60);
        stopIs("nothing falls, from 38", Due.with("12;p01/38"), 0, 1, 60, 98);
        stopIs("nothing falls, from 39", Due.with("12;p01/39"), 0, 1, 60, 99);
        stopIs("nothing falls, from 40", Due.with("12;p01/40"), 0, 1, 59, 99);
        stopIs("nothing falls, from 98", Due.with("12;p01/98"), 0, 1, 1, 99);
        stopIs("nothing falls, from 99", Due.with("12;p01/99"), 0, 1, 0, 99);
        stopIs("laid down", Due.with("12;p01/5x"), 99, 1, 0, 5);
        stopIs("an old one", Due.with("12;o01"), 0, 1, 59, 30);
    }

    private static void part2StopFirstBehindP() {
        stopIs("each minute", Due.with("12;p01/5"), 99, 1, 0, 5);
        stopIs("each minute, from 0", Due.with("12;p01"), 99, 1, 0, 0);
        stopIs("each second", Due.with("12;p01/5"), 99, 2, 1, 6);
        stopIs("behind 59", Due.with("12;p01"), 99, 59, 58, 58);
        stopIs("behind 60", Due.with("12;p01"), 99, 60, 59, 59);
        stopIs("behind 30 and 60, the first of like ones", Due.with("12;p01"), 99, 30, 29, 29);
        stopIs("behind 31, the later is as long", Due.with("12;p01/2"), 99, 31, 30, 32);
        stopIs("behind 20, 40, 60", Due.with("12;p01"), 99, 20, 19, 19);
    }

    private static void part2StopBehindTheShake() {
        // it holds 3 less a tenth: 1 comes to be more than that behind 30 minutes
        stopIs("falls when it holds too little", Due.with("12;p01"), 1, 1, 29, 29);
        stopIs("falls when it holds too little", Due.with("12;p01"), 2, 1, 19, 19);
        stopIs("falls when it holds too little", Due.with("12;p01"), 3, 1, 9, 9);
        stopIs("falls at once", Due.with("12;p01"), 4, 1, 0, 0);
    }

    private static void part2StopPIsOneToSixty() {
        edges.bounds("p", 1, 60, Edges::three, (x, v) -> x.stop(0, 0, 9, v, 0));
    }

    // ---- "LUCK by c of 10 (0 .. 10): each other CLERK laughs .. a SHAKE of 9 at its DESK ..: a fraction in lowest terms"

    private static void luckIs(String what, AshClerks x, int clerk, int c, int above, int below) {
        edges.is(what + ": above", x.luck(clerk, c, 0), above);
        edges.is(what + ": below", x.luck(clerk, c, 1), below);
    }

    private static void part2LuckByNoughtToTen() {
        AshClerks x = Due.with("12;n01/5,p01x");
        int[] above = {0, 1, 1, 3, 2, 1, 3, 7, 4, 9, 1};
        int[] below = {1, 10, 5, 10, 5, 2, 5, 10, 5, 10, 1};
        for (int c = 0; c <= 10; c++) {
            luckIs("by " + c, x, 0, c, above[c], below[c]);
        }
        edges.bounds("c", 0, 10, Edges::three, (y, v) -> y.luck(0, v, 0));
    }

    private static void part2LuckNoughtIfItHasNoAsh() {
        luckIs("no ash", Due.with("12;n01,p01x"), 0, 10, 0, 1);
        luckIs("no ash, alone", Due.with("12;n01"), 0, 10, 0, 1);
        luckIs("alone", Due.with("12;n01/50"), 0, 10, 0, 1);
        luckIs("laid down", Due.with("12;n01/50x,p01"), 0, 10, 0, 1);
        luckIs("ash 1", Due.with("12;n01/1,p01"), 0, 10, 1, 1);
    }

    private static void part2LuckALaughIsAShakeOfNine() {
        luckIs("it holds 8", Due.with("12;p03/10,p01x"), 0, 7, 7, 10);
        luckIs("it holds 9", Due.with("12;p03/9,p01x"), 0, 7, 0, 1);
        luckIs("four desks off comes 1", Due.with("12;n01/5,p41x"), 0, 7, 7, 10);
        luckIs("five desks off comes nothing", Due.with("12;n01/5,p51x"), 0, 7, 0, 1);
    }

    private static void part2LuckOfFiveOthers() {
        AshClerks all = Due.with("12;n01/5,p01x,p01x,p01x,p01x,p01x");
        luckIs("all near, by 1", all, 0, 1, 40951, 100000);
        luckIs("all near, by 9", all, 0, 9, 99999, 100000);
        luckIs("all near, by 5", all, 0, 5, 31, 32);
        luckIs("all near, by 0", all, 0, 0, 0, 1);
        luckIs("all near, by 10", all, 0, 10, 1, 1);
        AshClerks last = Due.with("12;p91x,p91x,p91x,p91x,p41x,n01/5");
        luckIs("one near, by 3", last, 5, 3, 3, 10);
    }

    private static void part2LuckOfEachNumber() {
        // a laugh is felt up to four desks off
        AshClerks x = Due.with("12;n01/5,n01/5,n41/5x,n51/5,n91/5,n91/5");
        luckIs("0 by 1 or 2", x, 0, 3, 51, 100);
        luckIs("1 by 0 or 2", x, 1, 3, 51, 100);
        luckIs("2, laid down", x, 2, 3, 0, 1);
        luckIs("3 by 2, 4 or 5", x, 3, 3, 657, 1000);
        luckIs("4 by 3 or 5", x, 4, 3, 51, 100);
        luckIs("5 by 3 or 4", x, 5, 3, 51, 100);
    }

    private static void part2LuckOneBehindTheOtherByNumbers() {
        // 1 sighs only if 2 laughs, which is near it; a sigh of 9 comes to 0 as 1
        AshClerks x = Due.with("19;n01/5,n41/10,p81x");
        luckIs("by 1 itself or by 2", x, 0, 5, 3, 4);
        luckIs("1 falls by 2 alone", x, 1, 5, 3, 4);
        x.shake(4, 1);
        luckIs("nothing is left", x, 0, 5, 0, 1);
    }

    // ---- promise 16: "ASH of a CLERK behind n MINUTES. BAD"

    private static void promise16ItsBounds() {
        edges.bounds("minutes", 0, 120, Edges::three, (x, v) -> x.ahead(2, v));
        edges.bounds("clerk", 0, 5, Edges::six, (x, v) -> x.ahead(v, 120));
    }

    private static void promise16AsMinutesWouldMake() {
        for (int n = 1; n <= 60; n += 59) {
            AshClerks x = Edges.six();
            int[] ash = new int[6];
            for (int c = 0; c < 6; c++) {
                ash[c] = x.ahead(c, n);
            }
            x.minutes(n);
            edges.are("ash", x, (y, c) -> y.of(c, 3), ash);
        }
    }

    // ---- promise 17: "PAY of all behind n MINUTES. BAD"

    private static void promise17ItsBounds() {
        edges.bounds("minutes", 0, 120, Edges::three, (x, v) -> x.pay(v));
        edges.bounds("minutes, nobody", 0, 120, Edges::nobody, (x, v) -> x.pay(v));
        AshClerks x = Edges.six();
        edges.is("behind 0, what it pays now", x.pay(0), x.count(4));
        int behind60 = x.pay(60);
        edges.is("behind 60, as minutes make it", x.minutes(60), behind60);
    }

    // ---- promise 18: "FALLS: whose (what 0, a set), how much PAY is lost (1). BAD"

    private static void promise18ItsBounds() {
        edges.bounds("desk", 0, 9, Edges::six, (x, v) -> x.falls(v, 99, 1));
        edges.bounds("force", 0, 99, Edges::six, (x, v) -> x.falls(9, v, 1));
        edges.bounds("what", 0, 1, Edges::six, (x, v) -> x.falls(9, 99, v));
    }

    private static void promise18NoneAndAll() {
        AshClerks x = Due.with("90;n01/99,n11/99,n21/99,n31/99,n41/99,n51/99");
        edges.is("none", x.falls(0, 0, 0), 0);
        edges.is("nothing is lost", x.falls(0, 0, 1), 0);
        edges.is("one", x.falls(0, 1, 0), 1);
        edges.is("one is lost", x.falls(0, 1, 1), 891);
        edges.is("all", x.falls(0, 99, 0), 63);
        edges.is("all is lost", x.falls(0, 99, 1), 5346);
    }

    // ---- promise 19: "WORST (g 0 .. 99): the DESK (what 0), how much (1). BAD"

    private static void promise19ItsBounds() {
        edges.bounds("force", 0, 99, Edges::six, (x, v) -> x.worst(v, 1));
        edges.bounds("what", 0, 1, Edges::six, (x, v) -> x.worst(99, v));
    }

    private static void promise19IsTheGreatestOfFalls() {
        AshClerks x = Edges.six();
        for (int g = 0; g <= 99; g += 9) {
            int first = 0;
            for (int d = 1; d <= 9; d++) {
                first = x.falls(d, g, 1) > x.falls(first, g, 1) ? d : first;
            }
            edges.is("desk for " + g, x.worst(g, 0), first);
            edges.is("how much for " + g, x.worst(g, 1), x.falls(first, g, 1));
        }
    }

    // ---- promise 20: "ENOUGH; NONE. BAD"

    private static void promise20ItsBounds() {
        edges.bounds("desk", 0, 9, Edges::six, (x, v) -> x.enough(v, 1));
        edges.bounds("k", 1, 6, Edges::six, (x, v) -> x.enough(0, v));
        edges.bounds("k, of nobody", 1, 6, Edges::nobody, (x, v) -> x.enough(0, v));
        edges.is("more than there are is none, not bad", Due.with("12;n01/1").enough(0, 2), NONE);
        edges.is("six of one", Due.with("12;n01/1").enough(0, 6), NONE);
    }

    // ---- promise 21: "SEATS (g 0 .. 99): how much (clerk NONE), whose DESK one has. BAD"

    private static void promise21ItsBounds() {
        edges.bounds("desk", 0, 9, Edges::six, (x, v) -> x.seats(v, 9, 5));
        edges.bounds("force", 0, 99, Edges::three, (x, v) -> x.seats(9, v, 2));
        edges.bounds("clerk", 0, 5, Edges::six, (x, v) -> x.seats(0, 9, v));
    }

    private static void promise21NoneIsNoClerkButAsked() {
        for (int clerk : new int[] {-5, -3, -2, -1, -11, -14}) {
            edges.refused("clerk " + clerk, BAD, Edges::three, x -> x.seats(0, 9, clerk));
        }
        edges.holds("clerk NONE", Edges.three().seats(0, 9, NONE) >= 0);
        edges.is("clerk NONE of nobody", new AshClerks().seats(0, 99, NONE), 0);
        edges.refused("clerk NONE, no such desk", BAD, Edges::three, x -> x.seats(10, 9, NONE));
        edges.refused("clerk NONE, too strong", BAD, Edges::three, x -> x.seats(0, 100, NONE));
    }

    // ---- promise 22: "STOP (g 0 .. 99): behind how many (what 0), how long (1). BAD"

    private static void promise22ItsBounds() {
        edges.bounds("clerk", 0, 5, Edges::six, (x, v) -> x.stop(v, 9, 99, 60, 1));
        edges.bounds("desk", 0, 9, Edges::six, (x, v) -> x.stop(5, v, 99, 60, 1));
        edges.bounds("force", 0, 99, Edges::six, (x, v) -> x.stop(5, 9, v, 60, 1));
        edges.bounds("p", 1, 60, Edges::six, (x, v) -> x.stop(5, 9, 99, v, 1));
        edges.bounds("what", 0, 1, Edges::six, (x, v) -> x.stop(5, 9, 99, 60, v));
    }

    // ---- promise 23: "LUCK: above (what 0), below (1). BAD"

    private static void promise23ItsBounds() {
        edges.bounds("clerk", 0, 5, Edges::six, (x, v) -> x.luck(v, 10, 1));
        edges.bounds("c", 0, 10, Edges::six, (x, v) -> x.luck(5, v, 1));
        edges.bounds("what", 0, 1, Edges::six, (x, v) -> x.luck(5, 10, v));
    }

    // ---- promise 24: "All but SHEETS, THE TAPE is kept as an IMAGE: 1"

    private static void promise24OfNobody() {
        AshClerks x = new AshClerks();
        edges.is("kept", x.image(), 1);
        Due.office(x, "99;p01/99");
        x.minutes(9);
        x.seed(9);
        edges.is("restored", x.restore(), 1);
        edges.are("count", x, (y, v) -> y.count(v), 0, 0, 1, 2, 0, 0, 0, 0);
        edges.is("the draw", x.seed(1), 1);
        edges.is("no clerk", x.of(0, 0), BAD);
    }

    private static void promise24ALaterOneIsInPlaceOfIt() {
        AshClerks x = Due.with("12;p01/1");
        edges.is("kept", x.image(), 1);
        x.minutes(1);
        edges.is("kept again", x.image(), 1);
        x.minutes(1);
        x.restore();
        edges.is("the later one", x.of(0, 3), 2);
        x.undo();
        x.restore();
        edges.is("the later one, again", x.of(0, 3), 2);
        edges.is("one is known", x.count(7), 1);
    }

    private static void promise24ChangesNothingElse() {
        AshClerks x = Edges.six();
        String was = Edges.stateNow(x);
        x.image();
        edges.holds("all is as it was", was.equals(Edges.stateNow(x)));
        edges.holds("what may be undone", Edges.pastOf(x).equals(Edges.pastOf(Edges.six())));
        AshClerks y = Edges.six();
        y.image();
        edges.holds("the tape", Edges.tapeOf(y).equals(Edges.tapeOf(Edges.six())));
        AshClerks z = Edges.six();
        z.image();
        edges.holds("the sheets", Edges.sheetsOf(z).equals(Edges.sheetsOf(Edges.six())));
    }

    // ---- promise 25: "All is as it was then: 1. NONE: there is none"

    private static void promise25ThereIsNone() {
        edges.refused("on a new object", NONE, AshClerks::new, x -> x.restore());
        edges.refused("behind an office", NONE, () -> Due.with("12;p01/5,n01"), x -> x.restore());
    }

    private static void promise25AllIsAsItWasThen() {
        AshClerks x = Edges.six();
        x.image();
        String was = Edges.stateNow(x);
        x.office();
        Due.office(x, "91;o99/99x");
        x.drift(5);
        x.clerk(1, 1, 1);
        x.seed(3);
        edges.is("restored", x.restore(), 1);
        edges.holds("all is as it was", was.equals(Edges.stateNow(x)));
        edges.holds("what may be undone", Edges.pastOf(x).equals(Edges.pastOf(Edges.six())));
        edges.is("restored again", x.restore(), 1);
        edges.holds("all is as it was, again", was.equals(Edges.stateNow(x)));
    }

    private static void promise25EightThatMayBeUndone() {
        AshClerks x = Due.with("12;p01");
        x.minutes(13);
        x.image();
        Due.office(x, "12;n01/50");
        x.minutes(5);
        x.restore();
        for (int left = 7; left >= 0; left--) {
            edges.is("undone", x.undo(), left);
            edges.is("ash", x.of(0, 3), 5 + left);
        }
        edges.is("none", x.undo(), NONE);
    }

    private static void promise25SheetsAndTheTapeStay() {
        AshClerks x = Due.with("12;p01/5");
        x.sheet(0, 2, 3);
        x.sheet(1, 2, 3);
        x.type('1');
        x.image();
        x.type('2');
        x.sheet(0, 1, 5);
        x.drop(1);
        x.sheet(2, 0, 0);
        x.restore();
        edges.is("the tape", x.type(';'), 3);
        edges.is("another lane", x.item(0, 1, 5, 0), INDEX);
        edges.is("how many", x.drop(0), 5);
        edges.is("dropped", x.drop(1), NULL);
        edges.is("new", x.drop(2), 0);
    }
}
