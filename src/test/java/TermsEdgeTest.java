import java.util.function.Supplier;

/** 'Terms' ahead of its parts, and its part 1: what stands on the edge of each of their sentences. */
public final class TermsEdgeTest {
    private static final Edges edges = new Edges();
    private static final int BAD = Edges.BAD, NOT = Edges.NOT, FULL = Edges.FULL, NONE = Edges.NONE;
    private static final int NULL = Edges.NULL, CAST = Edges.CAST, INDEX = Edges.INDEX, SIZE = Edges.SIZE;

    public static void main(String[] args) throws Exception {
        edges.runAll(TermsEdgeTest.class);
    }

    // ---- "Answers below 0, of several the first that a call names"

    private static void termsBadIsAheadOfFull() {
        edges.refused("a clerk of kind 5 among six", BAD, Edges::six, x -> x.clerk(5, 0, 1));
        edges.refused("a clerk at desk 10 among six", BAD, Edges::six, x -> x.clerk(0, 10, 1));
        edges.refused("a clerk steady by 0 among six", BAD, Edges::six, x -> x.clerk(0, 0, 0));
        edges.refused("61 minutes in minute 9999", BAD, () -> Edges.atMinute(9999), x -> x.minutes(61));
        edges.refused("0 minutes in minute 9999", BAD, () -> Edges.atMinute(9999), x -> x.minutes(0));
        edges.refused("a drift of 61 in minute 9999", BAD, () -> Edges.atMinute(9999), x -> x.drift(61));
        edges.refused("a drift of 0 in minute 9999", BAD, () -> Edges.atMinute(9999), x -> x.drift(0));
        edges.refused("letter 31 on a full tape", BAD, TermsEdgeTest::fullTape, x -> x.type(31));
        edges.refused("letter 127 on a full tape", BAD, TermsEdgeTest::fullTape, x -> x.type(127));
    }

    private static AshClerks fullTape() {
        AshClerks x = new AshClerks();
        for (int k = 0; k < 70; k++) {
            x.type("12;p01".charAt(Math.min(k, 5)));
        }
        return x;
    }

    private static void termsBadIsAheadOfNoneAndNot() {
        edges.refused("enough for six, of whom none has ash, at no desk", BAD, Edges::nobody, x -> x.enough(10, 6));
        edges.refused("enough for 7", BAD, Edges::nobody, x -> x.enough(0, 7));
        edges.refused("laid, no such clerk", BAD, Edges::three, x -> x.lay(3));
        edges.refused("lit, no such clerk", BAD, Edges::three, x -> x.light(3));
        edges.refused("whence by items that are no clerks, what 2", BAD, () -> Edges.withInts(Edges.three(), 3, 9, 9), x -> x.whence(3, 2, 0, 2, 2));
    }

    private static void termsBadIsAheadOfWhatTheMachineFinds() {
        edges.refused("no such sheet, length below 0", BAD, Edges::three, x -> x.sheet(4, 0, -1));
        edges.refused("no such lane, length below 0", BAD, Edges::three, x -> x.sheet(0, 4, -1));
        edges.refused("an item of no such lane on nothing", BAD, Edges::three, x -> x.item(3, 4, -1, 1));
        edges.refused("an item of no such lane outside", BAD, Edges::three, x -> x.item(0, -1, 3, 1));
        edges.refused("a film of nobody on nothing", BAD, Edges::three, x -> x.film(0, 3, 0, -1));
        edges.refused("a film of four of three on another lane", BAD, Edges::three, x -> x.film(4, 0, 1, 0));
        edges.refused("a film of no such lane on nothing", BAD, Edges::three, x -> x.film(1, 3, 4, 0));
        edges.refused("whence by 7 on nothing", BAD, Edges::three, x -> x.whence(3, 0, 0, 7, 0));
        edges.refused("whence by what 2 on another lane", BAD, Edges::three, x -> x.whence(0, 1, 0, 1, 2));
        edges.refused("whence by -1 outside", BAD, Edges::three, x -> x.whence(0, 0, 9, -1, 0));
        edges.refused("copied from no such sheet to nothing", BAD, Edges::three, x -> x.copy(4, 0, 3, 0, 1));
        edges.refused("copied from nothing to no such sheet", BAD, Edges::three, x -> x.copy(3, 0, 4, 0, 1));
    }

    // ---- "what the machine finds: NULL -11, INDEX -13, SIZE -14 (NULL, CAST, INDEX, SIZE in this order)"

    private static void termsNullIsAheadOfCastAndIndex() {
        for (int lane = 0; lane < 4; lane++) {
            int asLane = lane;
            edges.refused("an item of nothing, lane " + lane, NULL, Edges::three, x -> x.item(3, asLane, 0, 1));
            edges.refused("an item below 0 of nothing, lane " + lane, NULL, Edges::three, x -> x.item(3, asLane, -1, 1));
            edges.refused("a film on nothing, lane " + lane, NULL, Edges::three, x -> x.film(1, 3, asLane, 24));
            edges.refused("whence on nothing, lane " + lane, NULL, Edges::three, x -> x.whence(3, asLane, -1, 1, 0));
        }
        edges.refused("copied from nothing, from outside", NULL, Edges::three, x -> x.copy(3, -1, 0, 0, 1));
        edges.refused("copied to nothing, to outside", NULL, Edges::three, x -> x.copy(0, 0, 3, 9, 1));
        edges.refused("copied to nothing, from outside", NULL, Edges::three, x -> x.copy(0, 9, 3, 0, 1));
        edges.refused("copied from nothing to itself", NULL, Edges::three, x -> x.copy(3, 0, 3, 0, -1));
    }

    private static void termsCastIsAheadOfIndex() {
        edges.refused("an item outside, of another lane", CAST, Edges::three, x -> x.item(0, 1, 3, 1));
        edges.refused("an item below 0, of another lane", CAST, Edges::three, x -> x.item(0, 3, -1, 1));
        edges.refused("a film outside, of another lane", CAST, Edges::three, x -> x.film(3, 0, 2, 1));
        edges.refused("whence outside, of another lane", CAST, Edges::three, x -> x.whence(0, 2, 3, 1, 0));
        edges.refused("copied to outside, of unlike lanes", CAST, Edges::three, x -> x.copy(0, 0, 1, 24, 1));
        edges.refused("copied from outside, of unlike lanes", CAST, Edges::three, x -> x.copy(0, 3, 1, 0, 1));
        edges.refused("-1 copied, of unlike lanes", CAST, Edges::three, x -> x.copy(0, 0, 1, 0, -1));
        edges.refused("0 copied, of unlike lanes", CAST, Edges::three, x -> x.copy(0, 0, 1, 0, 0));
    }

    private static void termsIndexIsAheadOfNot() {
        edges.refused("whence, told twice and outside", INDEX, () -> Edges.withInts(Edges.three(), 3, 1, 1), x -> x.whence(3, 2, 0, 3, 0));
        edges.refused("whence, no clerk and outside", INDEX, () -> Edges.withInts(Edges.three(), 3, 7), x -> x.whence(3, 2, 0, 2, 0));
        edges.refused("whence, told twice", NOT, () -> Edges.withInts(Edges.three(), 3, 1, 1), x -> x.whence(3, 2, 0, 2, 0));
    }

    private static void termsSizeIsOfALengthBelowNought() {
        edges.refused("a sheet of -1", SIZE, Edges::three, x -> x.sheet(0, 0, -1));
        edges.refused("a sheet of the least", SIZE, Edges::three, x -> x.sheet(3, 3, Edges.MIN));
        edges.is("a sheet of 0", Edges.three().sheet(0, 0, 0), 0);
    }

    // ---- "What is refused changes nothing, but as told"

    private static void termsAFaultEmptiesTheTapeAndChangesNothingElse() {
        AshClerks x = Edges.three();
        AshClerks y = Edges.three();
        edges.is("the tape 12; is no office", x.office(), -23);
        edges.is("the tape is empty", x.type('1'), 1);
        edges.is("the other's is not", y.type('1'), 4);
        edges.holds("all else stays", Edges.stateNow(x).equals(Edges.stateNow(y)));
        edges.holds("what may be undone stays", Edges.pastOf(x).equals(Edges.pastOf(y)));
        edges.holds("the image stays", Edges.imageOf(x).equals(Edges.imageOf(y)));
        edges.holds("the sheets stay", Edges.sheetsOf(x).equals(Edges.sheetsOf(y)));
    }

    private static void termsNothingIsChangedByWhatIsOnlyAsked() {
        edges.noTrace("of", Edges::six, x -> x.of(0, 5));
        edges.noTrace("count", Edges::six, x -> x.count(4));
        edges.noTrace("ahead", Edges::six, x -> x.ahead(5, 120));
        edges.noTrace("pay", Edges::six, x -> x.pay(120));
        edges.noTrace("falls", Edges::six, x -> x.falls(0, 99, 1));
        edges.noTrace("worst", Edges::six, x -> x.worst(99, 0));
        edges.noTrace("enough", Edges::six, x -> x.enough(9, 6));
        edges.noTrace("seats", Edges::six, x -> x.seats(4, 12, NONE));
        edges.noTrace("stop", Edges::six, x -> x.stop(0, 4, 30, 7, 1));
        edges.noTrace("luck", Edges::six, x -> x.luck(0, 5, 0));
        edges.noTrace("whence", Edges::six, x -> x.whence(0, 0, 0, 3, 0));
    }

    // ---- "Sets are bits", "What is divided is cut"

    private static void termsSetsAreBits() {
        AshClerks x = Due.with("10;p01/5,p21/5,p41/5,p61/5,p81/5,p91/5");
        int[] desks = {0, 2, 4, 6, 8, 9};
        for (int c = 0; c < 6; c++) {
            edges.is("the set of clerk " + c, x.falls(desks[c], 4, 0), 1 << c);
        }
        edges.is("the set of all", x.falls(5, 99, 0), 63);
        edges.is("all smoke", x.count(5), 63);
        edges.is("all have ash", x.count(6), 63);
        x.lay(5);
        x.lay(0);
        edges.is("all but 0 and 5 smoke", x.count(5), 30);
        edges.is("fell", x.shake(5, 99), 30);
        edges.is("have ash", x.count(6), 33);
        edges.is("the set of none", x.shake(5, 99), 0);
    }

    private static void termsATenthOfAshIsCut() {
        int[] ash = {0, 1, 9, 10, 19, 20, 89, 90, 99};
        int[] tenth = {0, 0, 0, 1, 1, 2, 8, 9, 9};
        for (int k = 0; k < ash.length; k++) {
            edges.is("holds with ash " + ash[k], Due.with("12;p09/" + ash[k]).of(0, 5), 27 - tenth[k]);
        }
    }

    // ---- part 1: "DESKS are 0 .. 9 in a row"

    private static void part1DesksAreNoughtToNine() {
        edges.bounds("a clerk's desk", 0, 9, Edges::three, (x, v) -> x.clerk(0, v, 1));
        edges.bounds("another desk", 0, 9, Edges::three, (x, v) -> x.desk(2, v));
        edges.bounds("a shake's desk", 0, 9, Edges::three, (x, v) -> x.shake(v, 5));
        edges.bounds("falls' desk", 0, 9, Edges::three, (x, v) -> x.falls(v, 5, 0));
        edges.bounds("enough's desk", 0, 9, Edges::three, (x, v) -> x.enough(v, 1));
        edges.bounds("seats' desk", 0, 9, Edges::three, (x, v) -> x.seats(v, 5, NONE));
        edges.bounds("stop's desk", 0, 9, Edges::three, (x, v) -> x.stop(0, v, 5, 5, 0));
    }

    // ---- "CLERKS 0 .. 5, as they come, are of a KIND, at a DESK (several may be at one), STEADY by 1 .. 9"

    private static void part1ClerksAreNoughtToFive() {
        clerksAreNoughtTo(0, () -> Due.with("12;p01/3"));
        clerksAreNoughtTo(2, Edges::three);
        clerksAreNoughtTo(5, Edges::six);
    }

    private static void clerksAreNoughtTo(int last, Supplier<AshClerks> scene) {
        edges.bounds("of", 0, last, scene, (x, v) -> x.of(v, 0));
        edges.bounds("desk", 0, last, scene, (x, v) -> x.desk(v, 0));
        edges.bounds("lay", 0, last, scene, (x, v) -> x.lay(v));
        edges.bounds("light", 0, last, scene, (x, v) -> x.light(v));
        edges.bounds("ahead", 0, last, scene, (x, v) -> x.ahead(v, 1));
        edges.bounds("seats", 0, last, scene, (x, v) -> x.seats(0, 9, v));
        edges.bounds("stop", 0, last, scene, (x, v) -> x.stop(v, 0, 9, 9, 0));
        edges.bounds("luck", 0, last, scene, (x, v) -> x.luck(v, 5, 1));
    }

    private static void part1NobodyIsNoClerk() {
        edges.refused("of", BAD, Edges::nobody, x -> x.of(0, 0));
        edges.refused("desk", BAD, Edges::nobody, x -> x.desk(0, 0));
        edges.refused("lay", BAD, Edges::nobody, x -> x.lay(0));
        edges.refused("light", BAD, Edges::nobody, x -> x.light(0));
        edges.refused("ahead", BAD, Edges::nobody, x -> x.ahead(0, 0));
        edges.refused("seats", BAD, Edges::nobody, x -> x.seats(0, 0, 0));
        edges.refused("stop", BAD, Edges::nobody, x -> x.stop(0, 0, 0, 1, 0));
        edges.refused("luck", BAD, Edges::nobody, x -> x.luck(0, 0, 0));
        edges.refused("film", BAD, Edges::nobody, x -> x.film(1, 0, 0, 0));
    }

    private static void part1ClerksAreNumberedAsTheyCome() {
        AshClerks x = new AshClerks();
        for (int c = 0; c < 6; c++) {
            edges.is("clerk", x.clerk(4 - c % 5, 9 - c, 9 - c), c);
        }
        for (int c = 0; c < 6; c++) {
            edges.is("kind of " + c, x.of(c, 0), 4 - c % 5);
            edges.is("desk of " + c, x.of(c, 1), 9 - c);
            edges.is("steady of " + c, x.of(c, 2), 9 - c);
        }
    }

    private static void part1AllSixMayBeAtOneDesk() {
        for (int desk = 0; desk <= 9; desk += 9) {
            AshClerks x = new AshClerks();
            for (int c = 0; c < 6; c++) {
                edges.is("one more at desk " + desk, x.clerk(0, desk, 1), c);
            }
            x.minutes(1);
            edges.is("they are shaken at once", x.shake(desk, 4), 63);
        }
    }

    private static void part1SteadyIsOneToNine() {
        edges.bounds("steady", 1, 9, Edges::three, (x, v) -> x.clerk(0, 0, v));
        AshClerks x = new AshClerks();
        x.clerk(0, 0, 1);
        x.clerk(0, 0, 9);
        edges.is("holds by 1", x.of(0, 5), 3);
        edges.is("holds by 9", x.of(1, 5), 27);
    }

    private static void part1KindsAreNoughtToFour() {
        edges.bounds("kind", 0, 4, Edges::three, (x, v) -> x.clerk(v, 0, 1));
    }

    // ---- "SMOKE (at first) or have LAID it down; ASH is 0 .. 99 (0 at first). RATE is 1 .. 9 (1 at first), SIGH .."

    private static void part1WhatIsAtFirst() {
        AshClerks x = new AshClerks();
        edges.are("count", x, (y, v) -> y.count(v), 0, 0, 1, 2, 0, 0, 0, 0);
        x.clerk(4, 9, 9);
        edges.are("of", x, (y, v) -> y.of(0, v), 4, 9, 9, 0, 1, 32);
        edges.is("rate at first", x.rule(0, 5), 1);
        edges.is("sigh at first", x.rule(1, 5), 2);
        edges.is("the draw at first", x.seed(5), 1);
    }

    private static void part1AshIs99AtMost() {
        AshClerks x = Due.with("10;p01/98,n01/99,s01/98,c01/99,o01/98,o01/99");
        edges.is("behind a minute", x.minutes(1), 6 * 99);
        edges.is("behind two", x.minutes(1), 6 * 99);
        edges.is("behind 60 more", x.minutes(60), 6 * 99);
        x.seed(Edges.seedFor(Edges.drawOf(0, 1, 0, 0)));
        edges.is("behind a drift", x.drift(1), 6 * 99);
        for (int c = 0; c < 6; c++) {
            edges.is("ash of " + c, x.of(c, 3), 99);
            edges.is("ahead of " + c, x.ahead(c, 120), 99);
            edges.is("stop for " + c, x.stop(c, 0, 0, 1, 1), 99);
        }
        edges.is("pay", x.pay(120), 6 * 99);
    }

    private static void part1RateIsOneToNine() {
        edges.bounds("rate", 1, 9, Edges::three, (x, v) -> x.rule(0, v));
    }

    private static void part1SighIsNoughtToNine() {
        edges.bounds("sigh", 0, 9, Edges::three, (x, v) -> x.rule(1, v));
    }

    // ---- "How much more ASH a MINUTE makes of one who SMOKES .., how much its ASH HOLDS, by KIND"

    private static int holds(String clerk) {
        return Due.with("12;" + clerk).of(0, 5);
    }

    private static int holdsInMinute1(String clerk) {
        AshClerks x = Due.with("12;" + clerk);
        x.minutes(1);
        return x.of(0, 5);
    }

    private static void part1PlainHoldsNoughtAtLeast() {
        edges.is("ash 29", holds("p01/29"), 1);
        edges.is("ash 30", holds("p01/30"), 0);
        edges.is("ash 39", holds("p01/39"), 0);
        edges.is("ash 40", holds("p01/40"), 0);
        edges.is("ash 99", holds("p01/99"), 0);
        edges.is("steady by 3, ash 89", holds("p03/89"), 1);
        edges.is("steady by 3, ash 99", holds("p03/99"), 0);
    }

    private static void part1NervousHoldsNoughtAtLeast() {
        edges.is("steady by 1, ash 0", holds("n01"), 0);
        edges.is("steady by 1, ash 10", holds("n01/10"), 0);
        edges.is("steady by 1, ash 99", holds("n01/99"), 0);
        edges.is("steady by 2, ash 0", holds("n02"), 3);
        edges.is("steady by 2, ash 29", holds("n02/29"), 1);
        edges.is("steady by 2, ash 30", holds("n02/30"), 0);
        edges.is("steady by 2, ash 40", holds("n02/40"), 0);
        edges.is("steady by 9, ash 0", holds("n09"), 24);
    }

    private static void part1StillHoldsFiveMoreThanNoughtAtLeast() {
        edges.is("ash 29", holds("s01/29"), 6);
        edges.is("ash 30", holds("s01/30"), 5);
        edges.is("ash 40", holds("s01/40"), 5);
        edges.is("ash 99", holds("s01/99"), 5);
        edges.is("the most that is held", holds("s09"), 32);
    }

    private static void part1ColdHoldsNothingInMinutesThatAreAMultipleOfTen() {
        edges.is("minute 0", holds("c09"), 0);
        edges.is("minute 1", holdsInMinute1("c09"), 24);
        AshClerks x = new AshClerks();
        x.clerk(3, 0, 9);
        x.lay(0);
        x.minutes(9);
        x.light(0);
        edges.is("minute 9", x.of(0, 5), 24);
        x.minutes(1);
        edges.is("minute 10", x.of(0, 5), 0);
        edges.is("a shake of 0 in minute 10", x.falls(0, 0, 0), 0);
        edges.is("a shake of 1 in minute 10", x.falls(0, 1, 0), 1);
        x.minutes(1);
        edges.is("minute 11", x.of(0, 5), 24);
        edges.is("a shake of 24 in minute 11", x.falls(0, 24, 0), 0);
        edges.is("a shake of 25 in minute 11", x.falls(0, 25, 0), 1);
        x.undo();
        edges.is("minute 10 again", x.of(0, 5), 0);
    }

    private static void part1ColdHoldsAsNervousNoughtAtLeast() {
        edges.is("minute 1, steady by 1", holdsInMinute1("c01"), 0);
        edges.is("minute 1, steady by 1, ash 99", holdsInMinute1("c01/99"), 0);
        edges.is("minute 1, steady by 2, ash 28", holdsInMinute1("c02/28"), 1);
        edges.is("minute 1, steady by 2, ash 29", holdsInMinute1("c02/29"), 0);
    }

    private static void part1ColdInTheLastMinutes() {
        AshClerks x = new AshClerks();
        for (int k = 0; k < 166; k++) {
            x.minutes(60);
        }
        x.minutes(30);
        x.clerk(3, 0, 9);
        edges.is("minute 9990", x.of(0, 5), 0);
        x.minutes(9);
        edges.is("minute 9999", x.of(0, 5), 24);
    }

    private static void part1OldGrowsInEvenMinutesAlone() {
        AshClerks x = Due.with("12;o01,o01/7x");
        int[] ash = {0, 1, 1, 2, 2, 3};
        for (int minute = 0; minute < ash.length; minute++) {
            edges.is("ash in minute " + minute, x.of(0, 3), ash[minute]);
            edges.is("of one that is laid down", x.of(1, 3), 7);
            edges.is("ahead of minute " + minute, x.ahead(0, 1), ash[minute] + (minute % 2 == 0 ? 1 : 0));
            x.minutes(1);
        }
        edges.is("it holds as still does", holds("o01/40"), 5);
        edges.is("the most", holds("o09"), 32);
        AshClerks late = Edges.atMinute(9998);
        int was = late.of(1, 3);
        edges.is("99 long before", was, 99);
        late.shake(0, 99);
        late.minutes(1);
        edges.is("from minute 9998", late.of(1, 3), 1);
    }

    private static void part1OneThatIsLaidDownHoldsWhateverComes() {
        for (String kind : new String[] {"p", "n", "s", "c", "o"}) {
            AshClerks x = Due.with("12;" + kind + "01/99x");
            edges.is("holds", x.of(0, 5), 1000);
            edges.is("falls by 99", x.falls(0, 99, 0), 0);
            edges.is("a shake of 99", x.shake(0, 99), 0);
            edges.is("its ash", x.of(0, 3), 99);
            edges.is("no more ash", x.minutes(60), 99);
        }
    }

    // ---- "A SHAKE of g at a DESK comes to a CLERK as g less twice how many DESKS it is off (0 at least)"

    private static void part1AShakeComesLessByTwiceTheDesks() {
        for (int desk = 0; desk <= 9; desk++) {
            AshClerks x = Due.with("12;p" + desk + "1/5");
            for (int at = 0; at <= 9; at++) {
                int need = 4 + 2 * Math.abs(desk - at);
                edges.is("desk " + at + " to " + desk + ", as much as it holds", x.falls(at, need - 1, 0), 0);
                edges.is("desk " + at + " to " + desk + ", one more", x.falls(at, need, 0), 1);
            }
        }
    }

    private static void part1AShakeComesAsNoughtAtLeast() {
        AshClerks x = Due.with("12;n01/5,n91/5,c91/5");
        edges.is("0 at its desk", x.falls(0, 0, 0), 0);
        edges.is("far less than 0 nine desks off", x.falls(0, 1, 0), 1);
        edges.is("0 nine desks off", x.falls(0, 18, 0), 1);
        edges.is("1 nine desks off", x.falls(0, 19, 0), 7);
    }

    private static void part1NothingFallsOfAshNought() {
        AshClerks x = Due.with("19;n01/0,n01/1,n01/0x,n01/1x");
        edges.is("falls", x.falls(0, 99, 0), 2);
        edges.is("a shake", x.shake(0, 99), 2);
        edges.is("again", x.shake(0, 99), 0);
        edges.is("have ash", x.count(6), 8);
    }

    private static void part1WhoHadTenAshSighs() {
        edges.is("of 9", Due.with("12;n01/9,n01/1x,n01/0").falls(0, 1, 0), 1);
        for (int ash = 8; ash <= 11; ash++) {
            AshClerks x = Due.with("13;n01/" + ash + ",n11/1");
            edges.is("the other falls by a sigh of " + ash, x.falls(0, 1, 0), ash < 10 ? 1 : 3);
            AshClerks y = Due.with("12;n01/" + ash + ",n11/1");
            edges.is("a sigh of 2 comes as 0", y.falls(0, 1, 0), 1);
        }
    }

    private static void part1ASighOfNoughtShakesNobody() {
        edges.is("sigh 0", Due.with("10;n01/99,n01/1x,n11/1").falls(0, 1, 0), 1);
        AshClerks x = Due.with("19;n01/99,n41/1,n51/1");
        edges.is("sigh 9 comes as 1 four desks off, not five", x.falls(0, 1, 0), 3);
    }

    private static void part1SighsOfAllSix() {
        AshClerks x = Due.with("93;n01/99,n11/99,n21/99,n31/99,n41/99,n51/99");
        edges.is("all six, one behind the other", x.falls(0, 1, 0), 63);
        edges.is("from the other end", x.falls(5, 1, 0), 63);
        edges.is("all is lost", x.falls(0, 1, 1), 9 * 6 * 99);
        edges.is("one step", x.shake(0, 1) + x.count(7), 64);
        edges.is("undone as one", x.undo(), 0);
        edges.is("all have ash", x.count(6), 63);
    }

    private static void part1LaidItDoesNotSmokeLitItSmokesOn() {
        AshClerks x = Due.with("12;p01/98,p01");
        x.lay(0);
        edges.is("it does not smoke", x.of(0, 4), 0);
        edges.is("a minute makes no ash of it", x.minutes(1), 98 + 1);
        edges.is("nothing falls", x.shake(0, 99), 2);
        x.light(0);
        edges.is("it smokes", x.of(0, 4), 1);
        edges.is("on from its ash", x.minutes(1), 99 + 1);
        edges.is("99 at most", x.minutes(1), 99 + 2);
        edges.is("it falls", x.shake(0, 99), 3);
    }

    private static void part1PayIsRateTimesAllAsh() {
        edges.is("nobody", new AshClerks().count(4), 0);
        edges.is("the most", Due.with("92;p01/99,p01/99,p01/99x,p01/99x,p01/99,p01/99").count(4), 9 * 6 * 99);
        edges.is("of ash 0", Due.with("92;p01").count(4), 0);
        edges.is("of ash 1", Due.with("92;p01/1").count(4), 9);
    }
}
