/** Promises 26 to 31, and WHENCE and the sheets of part 3: what stands on the edge of each of their sentences. */
public final class SheetsEdgeTest {
    private static final Edges edges = new Edges();
    private static final int BAD = Edges.BAD, NOT = Edges.NOT, NONE = Edges.NONE;
    private static final int NULL = Edges.NULL, CAST = Edges.CAST, INDEX = Edges.INDEX, SIZE = Edges.SIZE;
    private static final int MIN = Edges.MIN, MAX = Edges.MAX;
    private static final int[] BITS = {8, 16, 32, 64};

    public static void main(String[] args) throws Exception {
        edges.runAll(SheetsEdgeTest.class);
    }

    // ---- part 3: "a row tells whose ASH FELL (n CLERKS, each once, 1 .. 6; or none: n 0) by one SHAKE .."

    private static void whenceIs(String what, String office, int ways, int first, long... clerks) {
        AshClerks x = Edges.withInts(Due.with(office), 3, clerks);
        edges.is(what + ": ways", x.whence(3, 2, 0, clerks.length, 0), ways);
        edges.is(what + ": the first", x.whence(3, 2, 0, clerks.length, 1), first);
    }

    private static void part3WhenceForcesAreOneToForty() {
        whenceIs("from 1 on", "12;n01/5", 400 - 90, 1, 0);
        whenceIs("from 1 on, at the last desk", "12;n91/5", 400 - 90, 19, 0);
        whenceIs("up to 40, five desks off no more", "12;s99/5", 8 + 6 + 4 + 2, 639, 0);
        whenceIs("just 40, four desks off", "12;s99/10", 9 + 7 + 5 + 3 + 1, 540, 0);
    }

    private static void part3WhenceOfNone() {
        whenceIs("none, from 1 on", "12;n01/5", 90, 101);
        whenceIs("none, of one without ash", "12;n01", 400, 1);
        whenceIs("none, of one that is laid down", "12;n01/5x", 400, 1);
        AshClerks x = new AshClerks();
        x.sheet(3, 2, 0);
        edges.is("none, of nobody: all ways", x.whence(3, 2, 0, 0, 0), 400);
        edges.is("none, of nobody: the first", x.whence(3, 2, 0, 0, 1), 1);
    }

    private static void part3WhenceOfAllSix() {
        whenceIs("all six at once", "10;n01/5,n01/5,n01/5,n01/5,n01/5,n01/5", 310, 1, 5, 4, 3, 2, 1, 0);
        whenceIs("five of the six", "10;n01/5,n01/5,n01/5,n01/5,n01/5,n01/5", 0, NONE, 4, 3, 2, 1, 0);
        whenceIs("one with sighs", "13;n01/10,n11/10,n21/10,n31/10,n41/10,n51/10", 0, NONE, 0);
        whenceIs("all six by sighs", "13;n01/10,n11/10,n21/10,n31/10,n41/10,n51/10", 400 - 2 - 4 - 6 - 8, 1, 0, 1, 2, 3, 4, 5);
    }

    private static void part3WhenceByDeskThenByForce() {
        whenceIs("a low force at a later desk is not the first", "10;p01/5,p91/5", 18 + 14 + 10 + 6 + 2, 4, 0);
        whenceIs("the other side", "10;p01/5,p91/5", 18 + 14 + 10 + 6 + 2, 512, 1);
        whenceIs("both", "10;p01/5,p91/5", 2 * (19 + 21 + 23 + 25 + 27), 22, 1, 0);
        whenceIs("the last desk", "10;p81/5,p91/5", 2, 904, 1);
    }

    private static void part3WhenceNone() {
        whenceIs("of one that has no ash", "12;n01/0,n91/5", 0, NONE, 0);
        whenceIs("of one that is laid down", "12;n01/5x", 0, NONE, 0);
        whenceIs("of one that never falls alone", "10;p01/5,n01/5", 0, NONE, 0);
    }

    // ---- "sheets 0 .. 3: nothing (at first), or a row of a LANE: 0 bytes, 1 shorts, 2 ints, 3 longs, of 0 to 24 items"

    private static void part3SheetsAreNoughtToThreeAndNothingAtFirst() {
        AshClerks x = new AshClerks();
        for (int s = 0; s < 4; s++) {
            edges.is("drop", x.drop(s), NULL);
            edges.is("item", x.item(s, s, 0, 0), NULL);
            edges.is("copy from", x.copy(s, 0, 3 - s, 0, 0), NULL);
            edges.is("whence", x.whence(s, s, 0, 0, 0), NULL);
        }
        x.clerk(0, 0, 1);
        edges.is("film", x.film(1, 0, 0, 0), NULL);
    }

    private static void part3SheetsOfALane() {
        for (int lane = 0; lane < 4; lane++) {
            AshClerks x = Due.with("12;n01/5");
            x.sheet(0, lane, 1);
            for (int as = 0; as < 4; as++) {
                edges.is("item", x.item(0, as, 0, 0), as == lane ? 1 : CAST);
                edges.is("film", x.film(1, 0, as, 0), as == lane ? 1 : CAST);
                edges.is("whence", x.whence(0, as, 0, 0, 1), as == lane ? 101 : CAST);
                x.sheet(1, as, 1);
                edges.is("copy", x.copy(0, 0, 1, 0, 1), as == lane ? 1 : CAST);
                edges.is("copy", x.copy(1, 0, 0, 0, 1), as == lane ? 1 : CAST);
            }
        }
    }

    // ---- promise 26: "WHENCE by n items of a SHEET (0 .. 6) .. from item i on .. BAD; NULL; CAST; INDEX; NOT .."

    private static AshClerks sixOnASheet() {
        return Edges.withInts(Edges.six(), 3, 0, 1, 2, 3, 4, 5, 0, 1);
    }

    private static void promise26ItsBounds() {
        edges.bounds("sheet", 0, 3, SheetsEdgeTest::sixOnASheet, (x, v) -> x.whence(v, 2, 0, 1, 0));
        edges.bounds("lane", 0, 3, SheetsEdgeTest::sixOnASheet, (x, v) -> x.whence(3, v, 0, 1, 0));
        edges.bounds("n", 0, 6, SheetsEdgeTest::sixOnASheet, (x, v) -> x.whence(3, 2, 0, v, 0));
        edges.bounds("what", 0, 1, SheetsEdgeTest::sixOnASheet, (x, v) -> x.whence(3, 2, 0, 6, v));
    }

    private static void promise26FromItemIOn() {
        AshClerks x = sixOnASheet();
        for (int n = 1; n <= 6; n++) {
            edges.holds(n + " up to the end", x.whence(3, 2, 8 - n, n, 0) >= 0);
            edges.is(n + ", one beyond the end", x.whence(3, 2, 9 - n, n, 0), INDEX);
            edges.is(n + ", from below 0", x.whence(3, 2, -1, n, 0), INDEX);
            edges.is(n + ", from the most", x.whence(3, 2, MAX, n, 0), INDEX);
            edges.is(n + ", from the least", x.whence(3, 2, MIN, n, 0), INDEX);
        }
        edges.refused("beyond the end", INDEX, SheetsEdgeTest::sixOnASheet, y -> y.whence(3, 2, 8, 1, 0));
        edges.refused("below 0", INDEX, SheetsEdgeTest::sixOnASheet, y -> y.whence(3, 2, -1, 1, 1));
    }

    // the document has no sentence of its own for 0 items from outside the row; a reading, see NOTES.md
    private static void promise26OfNoItems() {
        AshClerks x = sixOnASheet();
        int ways = x.whence(3, 2, 0, 0, 0);
        for (int i = 0; i <= 8; i++) {
            edges.is("none from " + i, x.whence(3, 2, i, 0, 0), ways);
        }
        edges.is("none from beyond the end", x.whence(3, 2, 9, 0, 0), INDEX);
        edges.is("none from below 0", x.whence(3, 2, -1, 0, 0), INDEX);
        x.sheet(2, 0, 0);
        edges.is("none of a row without items", x.whence(2, 0, 0, 0, 0), ways);
        edges.is("none of it, beyond its end", x.whence(2, 0, 1, 0, 0), INDEX);
        x.sheet(2, 0, 24);
        edges.is("none at the end of the longest", x.whence(2, 0, 24, 0, 0), ways);
        edges.is("none beyond it", x.whence(2, 0, 25, 0, 0), INDEX);
        x.drop(2);
        edges.is("none of nothing", x.whence(2, 0, 0, 0, 0), NULL);
    }

    private static void promise26AnItemIsNoClerk() {
        long[] no = {-1, 3, 6, 256, -256, 65536, 1L << 31, -(1L << 31)};
        for (long item : no) {
            AshClerks x = Edges.withInts(Due.with("12;p01/5,p41/5,p91/5"), 3, 0, item);
            edges.is("item " + item, x.whence(3, 2, 1, 1, 0), NOT);
            edges.is("item " + item + " behind a clerk", x.whence(3, 2, 0, 2, 1), NOT);
            edges.holds("not looked at", x.whence(3, 2, 0, 1, 1) > 0);
        }
        AshClerks x = Edges.withInts(Due.with("12;p01/5,p41/5,p91/5"), 3, 2);
        edges.is("the last clerk", x.whence(3, 2, 0, 1, 1), 708);
        edges.refused("the first beyond the last", NOT, () -> Edges.withInts(Edges.three(), 3, 3), y -> y.whence(3, 2, 0, 1, 0));
        edges.refused("below 0", NOT, () -> Edges.withInts(Edges.three(), 3, -1), y -> y.whence(3, 2, 0, 1, 1));
        edges.is("nobody is a clerk", Edges.withInts(new AshClerks(), 3, 0).whence(3, 2, 0, 1, 0), NOT);
    }

    private static void promise26AnItemOfLongsIsNoClerk() {
        long[] no = {-1, 2, 1L << 32, (1L << 32) + 1, Long.MIN_VALUE, Long.MAX_VALUE, 1L << 33, 64, 65};
        for (long item : no) {
            AshClerks x = Due.with("12;p01/5,p91/5");
            x.sheet(0, 3, 1);
            x.item(0, 3, 0, item);
            edges.is("item " + item, x.whence(0, 3, 0, 1, 0), NOT);
        }
    }

    private static void promise26OneIsToldTwice() {
        edges.refused("side by side", NOT, () -> Edges.withInts(Edges.three(), 3, 2, 2), x -> x.whence(3, 2, 0, 2, 0));
        edges.refused("apart", NOT, () -> Edges.withInts(Edges.three(), 3, 2, 0, 1, 2), x -> x.whence(3, 2, 0, 4, 1));
        AshClerks x = sixOnASheet();
        edges.is("the first and the last of six", Edges.withInts(x, 2, 5, 1, 2, 3, 4, 5).whence(2, 2, 0, 6, 0), NOT);
        edges.holds("each once", x.whence(3, 2, 2, 6, 0) >= 0);
    }

    private static void promise26TheSameInEachLane() {
        for (int lane = 0; lane < 4; lane++) {
            AshClerks x = Due.with("10;p01/5,p41/5,p91/5");
            x.sheet(0, lane, 24);
            x.item(0, lane, 23, 2);
            edges.is("the last item, lane " + lane, x.whence(0, lane, 23, 1, 1), 708);
            edges.is("beyond it", x.whence(0, lane, 23, 2, 1), INDEX);
            edges.is("beyond it", x.whence(0, lane, 24, 1, 1), INDEX);
            x.item(0, lane, 0, 1);
            edges.is("the first item", x.whence(0, lane, 0, 1, 1), 306);
        }
    }

    // ---- promise 27: "ASH of the CLERKS 0 to n less 1 (n 1 to how many there are), an item each, comes to a SHEET likewise: n"

    private static void promise27ItsBounds() {
        edges.bounds("n of three", 1, 3, Edges::three, (x, v) -> x.film(v, 0, 0, 0));
        edges.bounds("n of six", 1, 6, SheetsEdgeTest::sixOnASheet, (x, v) -> x.film(v, 3, 2, 0));
        edges.bounds("n of one", 1, 1, () -> Edges.withInts(Due.with("12;p01/5"), 3, 1, 1), (x, v) -> x.film(v, 3, 2, 0));
        edges.bounds("sheet", 0, 3, Edges::three, (x, v) -> x.film(1, v, 0, 0));
        edges.bounds("lane", 0, 3, Edges::three, (x, v) -> x.film(1, 0, v, 0));
        edges.refused("nobody", BAD, () -> Edges.withInts(new AshClerks(), 0, 1, 1), x -> x.film(1, 0, 2, 0));
        edges.refused("none of nobody", BAD, () -> Edges.withInts(new AshClerks(), 0, 1, 1), x -> x.film(0, 0, 2, 0));
    }

    private static void promise27FromItemIOn() {
        edges.is("just so many", Edges.three().film(3, 0, 0, 0), 3);
        edges.is("the last two", Edges.three().film(2, 0, 0, 1), 2);
        edges.is("the last", Edges.three().film(1, 0, 0, 2), 1);
        edges.refused("one beyond the end", INDEX, Edges::three, x -> x.film(3, 0, 0, 1));
        edges.refused("one beyond the end", INDEX, Edges::three, x -> x.film(1, 0, 0, 3));
        edges.refused("from below 0", INDEX, Edges::three, x -> x.film(1, 0, 0, -1));
        edges.refused("from below 0", INDEX, Edges::three, x -> x.film(3, 0, 0, -1));
        edges.refused("from the most", INDEX, Edges::three, x -> x.film(3, 0, 0, MAX));
        edges.refused("from the least", INDEX, Edges::three, x -> x.film(3, 0, 0, MIN));
        edges.refused("a row without items", INDEX, Edges::three, x -> x.film(1, 2, 1, 0));
        edges.refused("nothing", NULL, Edges::three, x -> x.film(1, 3, 0, 0));
        edges.refused("another lane", CAST, Edges::three, x -> x.film(1, 0, 1, 0));
        edges.is("up to the last of 24", Edges.three().film(3, 1, 3, 21), 3);
        edges.refused("beyond the last of 24", INDEX, Edges::three, x -> x.film(3, 1, 3, 22));
    }

    private static void promise27NoItemMore() {
        // ash 0, 1, 2 tell clerks with ways of their own; clerk 3 has no ash, so it never fell
        AshClerks x = Due.with("10;p01/2,p41/1,p91/3,p91/0");
        filmIs("none yet", Edges.withInts(x, 0, 0, 0, 0, 0, 0), 4, 4, 4, 4, 4);
        edges.is("two", x.film(2, 0, 2, 1), 2);
        filmIs("ash 2, 1", x, 4, 708, 306, 4, 4);
        edges.is("one, at the end", x.film(1, 0, 2, 4), 1);
        filmIs("ash 2", x, 4, 708, 306, 4, 708);
        x.item(0, 2, 3, 1);
        edges.is("four", x.film(4, 0, 2, 0), 4);
        filmIs("ash 2, 1, 3, 0", x, 708, 306, NONE, 4, 708);
        edges.is("one, at the start", Edges.withInts(x, 0, 0, 0, 0, 0, 0).film(1, 0, 2, 0), 1);
        filmIs("ash 2", x, 708, 4, 4, 4, 4);
    }

    private static void filmIs(String what, AshClerks x, int... firstWays) {
        for (int i = 0; i < firstWays.length; i++) {
            edges.is(what + ", item " + i, x.whence(0, 2, i, 1, 1), firstWays[i]);
        }
    }

    private static void promise27IsNothingToBeUndone() {
        AshClerks x = Edges.three();
        x.film(3, 0, 0, 0);
        edges.is("seven are known", x.count(7), 7);
        edges.holds("all else stays", Edges.stateNow(x).equals(Edges.stateNow(Edges.three())));
    }

    // ---- promise 28: "A SHEET holds a new row of a LANE: n. BAD: also n above 24; SIZE: n below 0"

    private static void promise28ItsBounds() {
        edges.bounds("sheet", 0, 3, Edges::three, (x, v) -> x.sheet(v, 1, 5));
        edges.bounds("lane", 0, 3, Edges::three, (x, v) -> x.sheet(1, v, 5));
    }

    private static void promise28NoughtTo24Items() {
        for (int n = 0; n <= 24; n++) {
            AshClerks x = new AshClerks();
            edges.is("items", x.sheet(3, 3, n), n);
            edges.is("the last", x.item(3, 3, n - 1, 1), n == 0 ? INDEX : 1);
            edges.is("one more", x.item(3, 3, n, 1), INDEX);
            edges.is("dropped", x.drop(3), n);
        }
        edges.refused("25", BAD, Edges::three, x -> x.sheet(0, 0, 25));
        edges.refused("the most", BAD, Edges::three, x -> x.sheet(0, 0, MAX));
        edges.refused("-1", SIZE, Edges::three, x -> x.sheet(0, 0, -1));
        edges.refused("the least", SIZE, Edges::three, x -> x.sheet(0, 0, MIN));
        edges.refused("25 on nothing", BAD, Edges::three, x -> x.sheet(3, 0, 25));
        edges.refused("-1 on nothing", SIZE, Edges::three, x -> x.sheet(3, 0, -1));
    }

    private static void promise28ANewRowIsOfNoughts() {
        AshClerks x = Due.with("10;p01/5,p41/5");
        Edges.withInts(x, 0, 1, 1, 1);
        edges.is("1 tells clerk 1", x.whence(0, 2, 2, 1, 1), 306);
        edges.is("anew, of the same lane", x.sheet(0, 2, 3), 3);
        for (int i = 0; i < 3; i++) {
            edges.is("0 tells clerk 0", x.whence(0, 2, i, 1, 1), 4);
        }
        edges.is("shorter", x.sheet(0, 2, 2), 2);
        edges.is("its third", x.whence(0, 2, 2, 1, 1), INDEX);
        edges.is("of another lane", x.sheet(0, 0, 3), 3);
        edges.is("0 tells clerk 0", x.whence(0, 0, 2, 1, 1), 4);
        edges.is("no row of ints any more", x.whence(0, 2, 0, 1, 1), CAST);
    }

    // ---- promise 29: "A SHEET holds nothing: how many items it had. BAD; NULL"

    private static void promise29ItsBounds() {
        edges.bounds("sheet", 0, 3, Edges::three, (x, v) -> x.drop(v));
        edges.refused("nothing", NULL, Edges::three, x -> x.drop(3));
    }

    private static void promise29HowManyItHad() {
        AshClerks x = Edges.three();
        edges.is("3", x.drop(0), 3);
        edges.is("24", x.drop(1), 24);
        edges.is("0", x.drop(2), 0);
        for (int s = 0; s < 4; s++) {
            edges.is("nothing", x.drop(s), NULL);
        }
        x.sheet(1, 0, 1);
        edges.is("a new row of 0s and one item", x.item(1, 0, 1, 0), INDEX);
        edges.is("1", x.drop(1), 1);
    }

    // ---- promise 30: "Item i of a SHEET, taken as a row of a LANE, becomes v, its lowest bits: 1. BAD; NULL; CAST; INDEX"

    private static void promise30ItsBounds() {
        edges.bounds("sheet", 0, 3, Edges::three, (x, v) -> x.item(v, 0, 0, 1));
        edges.bounds("lane", 0, 3, Edges::three, (x, v) -> x.item(0, v, 0, 1));
        edges.refused("nothing", NULL, Edges::three, x -> x.item(3, 0, 0, 1));
        edges.refused("another lane", CAST, Edges::three, x -> x.item(0, 1, 0, 1));
        edges.refused("below 0", INDEX, Edges::three, x -> x.item(0, 0, -1, 1));
        edges.refused("how many there are", INDEX, Edges::three, x -> x.item(0, 0, 3, 1));
        edges.refused("the most", INDEX, Edges::three, x -> x.item(0, 0, MAX, 1));
        edges.refused("the least", INDEX, Edges::three, x -> x.item(0, 0, MIN, 1));
        edges.refused("a row without items", INDEX, Edges::three, x -> x.item(2, 1, 0, 1));
        edges.refused("beyond 24", INDEX, Edges::three, x -> x.item(1, 3, 24, 1));
        edges.is("the first", Edges.three().item(0, 0, 0, 1), 1);
        edges.is("the last", Edges.three().item(0, 0, 2, 1), 1);
        edges.is("the last of 24", Edges.three().item(1, 3, 23, 1), 1);
    }

    /** What whence answers for one item: 4 if it is 0, 306 if it is 1, NOT if it is no clerk. */
    private static int itemAfter(int lane, long v) {
        AshClerks x = Due.with("10;p01/5,p41/5");
        x.sheet(0, lane, 1);
        edges.is("any long is taken", x.item(0, lane, 0, v), 1);
        return x.whence(0, lane, 0, 1, 1);
    }

    private static void promise30ItsLowestBits() {
        for (int lane = 0; lane < 4; lane++) {
            edges.is("0, lane " + lane, itemAfter(lane, 0), 4);
            edges.is("1, lane " + lane, itemAfter(lane, 1), 306);
            edges.is("-1, lane " + lane, itemAfter(lane, -1), NOT);
            for (int bit = 1; bit < 64; bit++) {
                boolean lost = bit >= BITS[lane];
                edges.is("bit " + bit + ", lane " + lane, itemAfter(lane, 1L << bit), lost ? 4 : NOT);
                edges.is("bit " + bit + " and 1, lane " + lane, itemAfter(lane, (1L << bit) + 1), lost ? 306 : NOT);
            }
            edges.is("the most, lane " + lane, itemAfter(lane, Long.MAX_VALUE), NOT);
            edges.is("the least, lane " + lane, itemAfter(lane, Long.MIN_VALUE), lane == 3 ? NOT : 4);
        }
    }

    // ---- promise 31: "n items of a SHEET from i on come to another one (or the same) from j on, as if all were taken ahead: n"

    /** Rows of ints 0 .. 4 on sheet 0 and of five 5s on sheet 1; each of six clerks has a way of its own. */
    private static AshClerks twoRows() {
        AshClerks x = Due.with("10;p01/5,p21/5,p41/5,p61/5,p81/5,p91/5");
        Edges.withInts(x, 0, 0, 1, 2, 3, 4);
        Edges.withInts(x, 1, 5, 5, 5, 5, 5);
        x.sheet(2, 3, 5);
        return x;
    }

    private static void rowIs(String what, AshClerks x, int sheet, int... clerks) {
        int[] own = {4, 204, 404, 604, 804, 904};
        for (int i = 0; i < clerks.length; i++) {
            edges.is(what + ", item " + i, x.whence(sheet, 2, i, 1, 1), own[clerks[i]]);
        }
    }

    private static void promise31ItsBounds() {
        edges.bounds("from", 0, 3, SheetsEdgeTest::twoRows, (x, v) -> x.copy(v, 0, 1, 0, 1));
        edges.bounds("to", 0, 3, SheetsEdgeTest::twoRows, (x, v) -> x.copy(0, 0, v, 0, 1));
        edges.refused("from nothing", NULL, SheetsEdgeTest::twoRows, x -> x.copy(3, 0, 0, 0, 1));
        edges.refused("to nothing", NULL, SheetsEdgeTest::twoRows, x -> x.copy(0, 0, 3, 0, 1));
        edges.refused("none to nothing", NULL, SheetsEdgeTest::twoRows, x -> x.copy(0, 0, 3, 0, 0));
        edges.refused("unlike lanes", CAST, SheetsEdgeTest::twoRows, x -> x.copy(0, 0, 2, 0, 1));
        edges.refused("unlike lanes", CAST, SheetsEdgeTest::twoRows, x -> x.copy(2, 0, 0, 0, 1));
    }

    private static void promise31OneBeyondEitherEnd() {
        int[][] taken = {{0, 0, 5}, {0, 0, 4}, {1, 1, 4}, {4, 4, 1}, {0, 4, 1}, {4, 0, 1}};
        for (int[] t : taken) {
            edges.is("copied", twoRows().copy(0, t[0], 1, t[1], t[2]), t[2]);
        }
        int[][] outside = {{0, 0, 6}, {1, 0, 5}, {0, 1, 5}, {5, 0, 1}, {0, 5, 1}, {-1, 0, 1}, {0, -1, 1}, {-1, 0, 5}, {0, -1, 5},
            {0, 0, -1}, {1, 1, -1}, {0, 0, MIN}, {0, 0, MAX}, {MAX, 0, 1}, {0, MAX, 1}, {MIN, 0, 1}, {0, MIN, 1}, {MAX, MAX, MAX}, {1, 1, MAX}};
        for (int[] o : outside) {
            String call = "copy(0, " + o[0] + ", 1, " + o[1] + ", " + o[2] + ")";
            edges.refused(call, INDEX, SheetsEdgeTest::twoRows, x -> x.copy(0, o[0], 1, o[1], o[2]));
        }
    }

    // the document has no sentence of its own for 0 items from outside the row; a reading, see NOTES.md
    private static void promise31OfNoItems() {
        int[][] taken = {{0, 0}, {5, 5}, {0, 5}, {5, 0}};
        for (int[] t : taken) {
            AshClerks x = twoRows();
            edges.is("none", x.copy(0, t[0], 1, t[1], 0), 0);
            rowIs("none", x, 1, 5, 5, 5, 5, 5);
        }
        int[][] outside = {{6, 0}, {0, 6}, {-1, 0}, {0, -1}};
        for (int[] o : outside) {
            edges.refused("none from outside", INDEX, SheetsEdgeTest::twoRows, x -> x.copy(0, o[0], 1, o[1], 0));
        }
        AshClerks x = twoRows();
        x.sheet(1, 2, 0);
        edges.is("none to a row without items", x.copy(0, 5, 1, 0, 0), 0);
        edges.is("one to it", x.copy(0, 0, 1, 0, 1), INDEX);
    }

    private static void promise31NoItemMore() {
        AshClerks x = twoRows();
        x.copy(0, 1, 1, 2, 2);
        rowIs("two", x, 1, 5, 5, 1, 2, 5);
        rowIs("the other stays", x, 0, 0, 1, 2, 3, 4);
        x.copy(0, 4, 1, 4, 1);
        rowIs("the last", x, 1, 5, 5, 1, 2, 4);
        x.copy(0, 0, 1, 0, 5);
        rowIs("all", x, 1, 0, 1, 2, 3, 4);
        x.item(0, 2, 0, 3);
        rowIs("they are not one row", x, 1, 0, 1, 2, 3, 4);
    }

    private static void promise31AsIfAllWereTakenAhead() {
        AshClerks up = twoRows();
        edges.is("up", up.copy(0, 0, 0, 1, 4), 4);
        rowIs("up", up, 0, 0, 0, 1, 2, 3);
        AshClerks down = twoRows();
        edges.is("down", down.copy(0, 1, 0, 0, 4), 4);
        rowIs("down", down, 0, 1, 2, 3, 4, 4);
        AshClerks same = twoRows();
        edges.is("to where it is", same.copy(0, 0, 0, 0, 5), 5);
        rowIs("to where it is", same, 0, 0, 1, 2, 3, 4);
        edges.refused("up, one too far", INDEX, SheetsEdgeTest::twoRows, x -> x.copy(0, 0, 0, 1, 5));
        edges.refused("down, one too far", INDEX, SheetsEdgeTest::twoRows, x -> x.copy(0, 1, 0, 0, 5));
    }

    private static void promise31InEachLane() {
        for (int lane = 0; lane < 4; lane++) {
            AshClerks x = twoRows();
            x.sheet(2, lane, 24);
            x.sheet(3, lane, 24);
            x.item(2, lane, 0, 3);
            x.item(2, lane, 23, 5);
            edges.is("all 24, lane " + lane, x.copy(2, 0, 3, 0, 24), 24);
            edges.is("the first", x.whence(3, lane, 0, 1, 1), 604);
            edges.is("the last", x.whence(3, lane, 23, 1, 1), 904);
            edges.is("25", x.copy(2, 0, 3, 0, 25), INDEX);
        }
    }
}
