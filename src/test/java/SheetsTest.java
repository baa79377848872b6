/** Promises 26 to 31: sheets, and whence a shake came. */
public final class SheetsTest {
    private static final Due due = new Due();
    private static final int BAD = -1, NOT = -2, NONE = -4, NULL = -11, CAST = -12, INDEX = -13, SIZE = -14;
    private static final int MIN = Integer.MIN_VALUE, MAX = Integer.MAX_VALUE;

    public static void main(String[] args) {
        constants();
        whence();
        whenceOfNone();
        whenceBySighs();
        whenceIsRefused();
        film();
        filmIsRefused();
        sheet();
        drop();
        item();
        itemCutsToTheLane();
        copy();
        copyIsRefused();
        copyOverItself();
        due.end();
    }

    private static void constants() {
        due.is("BAD", AshClerks.BAD, BAD);
        due.is("NOT", AshClerks.NOT, NOT);
        due.is("FULL", AshClerks.FULL, -3);
        due.is("NONE", AshClerks.NONE, NONE);
        due.is("NULL", AshClerks.NULL, NULL);
        due.is("CAST", AshClerks.CAST, CAST);
        due.is("INDEX", AshClerks.INDEX, INDEX);
        due.is("SIZE", AshClerks.SIZE, SIZE);
    }

    /** Puts clerks on a sheet of longs and asks for whence. */
    private static int whenceOf(AshClerks x, int what, int... clerks) {
        x.sheet(3, 3, 10);
        for (int k = 0; k < clerks.length; k++) {
            x.item(3, 3, 2 + k, clerks[k]);
        }
        return x.whence(3, 3, 2, clerks.length, what);
    }

    private static void whence() {
        AshClerks x = Due.with("12;p01/5");
        due.is("26: ways", whenceOf(x, 0, 0), 280);
        due.is("26: the first", whenceOf(x, 1, 0), 4);
        x = Due.with("12;p31/5");
        due.is("26: ways", whenceOf(x, 0, 0), 316);
        due.is("26: the first", whenceOf(x, 1, 0), 10);
        x = Due.with("12;s99/5");
        due.is("26: ways", whenceOf(x, 0, 0), 20);
        due.is("26: the first", whenceOf(x, 1, 0), 639);
        AshClerks far = Due.with("12;s99/10");
        due.is("26: g 40", whenceOf(far, 1, 0), 540);
        x.lay(0);
        due.is("26: no way", whenceOf(x, 0, 0), 0);
        due.is("26: none", whenceOf(x, 1, 0), NONE);
        x = Due.with("12;p01/5,p01/5,p91/5");
        due.is("26: just of these: one alone", whenceOf(x, 0, 0), 0);
        due.is("26: just of these: two", whenceOf(x, 1, 1, 0), 4);
        due.is("26: in any order", whenceOf(x, 0, 0, 1), whenceOf(x, 0, 1, 0));
        due.is("26: just of these: two, g 4 to 21 at desk 0 and on", whenceOf(x, 0, 0, 1), 18 + 14 + 10 + 6 + 2);
        due.is("26: all", whenceOf(x, 1, 2, 1, 0), 22);
        due.is("26: the one, by desk first", whenceOf(x, 1, 2), 512);
    }

    private static void whenceOfNone() {
        AshClerks x = Due.with("12;p01/5");
        due.is("26: of none", whenceOf(x, 0), 120);
        due.is("26: the first of none", whenceOf(x, 1), 1);
        x = Due.with("12;n01/99,n11/99,n21/99,n31/99,n41/99,n51/99");
        due.is("26: of none", whenceOf(x, 0), 2 + 4 + 6 + 8);
        due.is("26: the first of none", whenceOf(x, 1), 601);
        due.is("26: nobody", whenceOf(new AshClerks(), 0), 400);
        x.sheet(0, 0, 0);
        due.is("26: of a row without items", x.whence(0, 0, 0, 0, 0), 20);
    }

    private static void whenceBySighs() {
        AshClerks x = Due.with("15;n01/50,n21/5");
        due.is("26: never the first alone", whenceOf(x, 0, 0), 0);
        due.is("26: the second alone", whenceOf(x, 1, 1), 201);
        due.is("26: both", whenceOf(x, 1, 0, 1), 1);
        x.rule(1, 4);
        due.is("26: a weaker sigh", whenceOf(x, 1, 0), 1);
    }

    private static void whenceIsRefused() {
        AshClerks x = Due.with("12;p01/5,p01/5");
        int[][] bad = {{-1, 0, 0, 0, 0}, {4, 0, 0, 0, 0}, {0, -1, 0, 0, 0}, {0, 4, 0, 0, 0}, {0, 0, 0, -1, 0}, {0, 0, 0, 7, 0},
            {0, 0, 0, 0, 2}, {0, 0, 0, 0, -1}, {MIN, 0, 0, 0, 0}, {0, MAX, 0, 0, 0}, {0, 0, 0, MIN, 0}};
        for (int[] b : bad) {
            due.is("26: BAD is ahead of NULL", x.whence(b[0], b[1], b[2], b[3], b[4]), BAD);
        }
        due.is("26: NULL is ahead of INDEX", x.whence(0, 0, -1, 0, 0), NULL);
        x.sheet(0, 1, 4);
        due.is("26: CAST is ahead of INDEX", x.whence(0, 0, -1, 0, 0), CAST);
        int[][] index = {{-1, 1}, {4, 1}, {3, 2}, {0, 5}, {0, 6}, {MAX, 1}, {MAX, 6}, {MIN, 6}, {5, 0}, {-1, 0}};
        for (int[] b : index) {
            due.is("26: whence(0, 1, " + b[0] + ", " + b[1] + ", 0)", x.whence(0, 1, b[0], b[1], 0), INDEX);
        }
        due.is("26: of none, at the end", x.whence(0, 1, 4, 0, 1), 1);
        due.is("26: up to the end", x.whence(0, 1, 3, 1, 0), 0);
        due.is("26: told twice", x.whence(0, 1, 0, 2, 0), NOT);
        due.is("26: told twice", x.whence(0, 1, 0, 2, 1), NOT);
        x.item(0, 1, 1, 2);
        due.is("26: no clerk", x.whence(0, 1, 0, 2, 0), NOT);
        x.item(0, 1, 1, -1);
        due.is("26: no clerk", x.whence(0, 1, 0, 2, 0), NOT);
        due.is("26: INDEX is ahead of NOT", x.whence(0, 1, 1, 4, 0), INDEX);
        x.item(0, 1, 1, 1);
        due.is("26: both", x.whence(0, 1, 0, 2, 1), 4);
        x.sheet(2, 3, 1);
        x.item(2, 3, 0, 1L << 32);
        due.is("26: a long that is no clerk", x.whence(2, 3, 0, 1, 0), NOT);
        x.item(2, 3, 0, Long.MIN_VALUE);
        due.is("26: a long that is no clerk", x.whence(2, 3, 0, 1, 0), NOT);
        due.is("26: nobody is a clerk", whenceOf(new AshClerks(), 0, 0), NOT);
    }

    private static void film() {
        AshClerks x = Due.with("12;p01/3,n01/1,o01/2,c01/99,s01/0x");
        for (int lane = 0; lane < 4; lane++) {
            x.sheet(0, lane, 7);
            for (int i = 0; i < 7; i++) {
                x.item(0, lane, i, 4);
            }
            due.is("27: three", x.film(3, 0, lane, 1), 3);
            // the ash 3, 1, 2 stands at 1, 2, 3, and 4 all round it
            due.is("27: ash 3, 1, 2", x.whence(0, lane, 1, 3, 0), whenceOf(x, 0, 3, 1, 2));
            due.is("27: ahead of it", x.whence(0, lane, 0, 4, 0), whenceOf(x, 0, 4, 3, 1, 2));
            due.is("27: behind it", x.whence(0, lane, 2, 3, 0), whenceOf(x, 0, 1, 2, 4));
            due.is("27: behind it", x.whence(0, lane, 4, 2, 0), NOT);
            due.is("27: all", x.film(5, 0, lane, 2), 5);
            due.is("27: ash 99 is no clerk", x.whence(0, lane, 5, 1, 0), NOT);
        }
        x = Due.with("12;p01/1,n91/0,s01/99");
        x.sheet(0, 0, 3);
        x.film(2, 0, 0, 1);
        due.is("27: clerk 1 has no ash, so it is never told alone", x.whence(0, 0, 1, 1, 0), 0);
        due.is("27: clerk 0", x.whence(0, 0, 2, 1, 1), 4);
        due.is("27: nothing to be undone by it", x.count(7), 0);
    }

    private static void filmIsRefused() {
        AshClerks x = Due.with("12;p01/1,n91/1");
        int[][] bad = {{0, 0, 0, 0}, {-1, 0, 0, 0}, {3, 0, 0, 0}, {6, 0, 0, 0}, {1, -1, 0, 0}, {1, 4, 0, 0}, {1, 0, -1, 0}, {1, 0, 4, 0}, {MIN, 0, 0, 0}};
        for (int[] b : bad) {
            due.is("27: BAD is ahead of NULL", x.film(b[0], b[1], b[2], b[3]), BAD);
        }
        due.is("27: nobody", new AshClerks().film(1, 0, 0, 0), BAD);
        due.is("27: NULL is ahead of INDEX", x.film(1, 0, 0, -1), NULL);
        x.sheet(0, 2, 2);
        due.is("27: CAST is ahead of INDEX", x.film(1, 0, 0, -1), CAST);
        int[] index = {-1, 1, 2, MAX, MIN};
        for (int i : index) {
            due.is("27: film(2, 0, 2, " + i + ")", x.film(2, 0, 2, i), INDEX);
        }
        due.is("27: what is refused changes nothing", x.whence(0, 2, 1, 1, 1), 4);
        due.is("27: just so many", x.film(2, 0, 2, 0), 2);
        due.is("27: told twice", x.whence(0, 2, 0, 2, 1), NOT);
    }

    private static void sheet() {
        AshClerks x = new AshClerks();
        for (int lane = 0; lane < 4; lane++) {
            due.is("28: none", x.sheet(lane, lane, 0), 0);
            due.is("28: no item", x.item(lane, lane, 0, 1), INDEX);
            due.is("28: 24", x.sheet(lane, lane, 24), 24);
            due.is("28: the last", x.item(lane, lane, 23, 1), 1);
            due.is("28: no more", x.item(lane, lane, 24, 1), INDEX);
            for (int other = 0; other < 4; other++) {
                due.is("28: of its lane alone", x.item(lane, other, 0, 1), other == lane ? 1 : CAST);
            }
        }
        due.is("28: no such sheet", x.sheet(4, 0, -1), BAD);
        due.is("28: no such sheet", x.sheet(-1, 0, -1), BAD);
        due.is("28: no such lane", x.sheet(0, 4, -1), BAD);
        due.is("28: no such lane", x.sheet(0, -1, -1), BAD);
        due.is("28: above 24", x.sheet(0, 1, 25), BAD);
        due.is("28: above 24", x.sheet(0, 1, MAX), BAD);
        due.is("28: below 0", x.sheet(0, 1, -1), SIZE);
        due.is("28: below 0", x.sheet(0, 1, MIN), SIZE);
        due.is("28: what is refused changes nothing", x.item(0, 0, 23, 1), 1);
        AshClerks y = Due.with("12;p01/5,p01/5");
        y.sheet(0, 2, 3);
        y.item(0, 2, 0, 9);
        y.item(0, 2, 2, 1);
        due.is("28: a row of 0s, as it was changed", y.whence(0, 2, 1, 2, 1), 4);
        y.sheet(0, 2, 1);
        due.is("28: a new row is of 0s", y.whence(0, 2, 0, 1, 0), 0);
        due.is("28: shorter", y.whence(0, 2, 0, 2, 0), INDEX);
        y.sheet(0, 2, 3);
        due.is("28: 0s all over", y.whence(0, 2, 1, 2, 0), NOT);
    }

    private static void drop() {
        AshClerks x = new AshClerks();
        for (int s = 0; s < 4; s++) {
            due.is("29: nothing", x.drop(s), NULL);
            x.sheet(s, 3 - s, 5 + s);
            due.is("29: how many", x.drop(s), 5 + s);
            due.is("29: nothing more", x.drop(s), NULL);
            due.is("29: nothing is there", x.item(s, 3 - s, 0, 1), NULL);
            x.sheet(s, s, 0);
        }
        due.is("29: of none", x.drop(3), 0);
        due.is("29: the others stay", x.drop(2), 0);
        due.is("29: no such sheet", x.drop(4), BAD);
        due.is("29: no such sheet", x.drop(-1), BAD);
        due.is("29: no such sheet", x.drop(MIN), BAD);
    }

    private static void item() {
        AshClerks x = new AshClerks();
        due.is("30: BAD is ahead of NULL", x.item(4, 0, 0, 1), BAD);
        due.is("30: BAD is ahead of NULL", x.item(-1, 0, 0, 1), BAD);
        due.is("30: BAD is ahead of NULL", x.item(0, 4, 0, 1), BAD);
        due.is("30: BAD is ahead of NULL", x.item(0, -1, 0, 1), BAD);
        due.is("30: NULL is ahead of INDEX", x.item(0, 0, -1, 1), NULL);
        x.sheet(0, 2, 3);
        due.is("30: CAST is ahead of INDEX", x.item(0, 1, 3, 1), CAST);
        int[] index = {-1, 3, 24, MAX, MIN};
        for (int i : index) {
            due.is("30: item(0, 2, " + i + ")", x.item(0, 2, i, 1), INDEX);
        }
        due.is("30: the first", x.item(0, 2, 0, Long.MAX_VALUE), 1);
        due.is("30: the last", x.item(0, 2, 2, Long.MIN_VALUE), 1);
    }

    private static void itemCutsToTheLane() {
        AshClerks x = Due.with("12;p01/5,p41/5");
        int[] bits = {8, 16, 32};
        int alone = whenceOf(x, 0, 1);
        for (int lane = 0; lane < 3; lane++) {
            x.sheet(0, lane, 1);
            x.item(0, lane, 0, (1L << bits[lane]) + 1);
            due.is("30: the lowest bits, lane " + lane, x.whence(0, lane, 0, 1, 0), alone);
            x.item(0, lane, 0, (1L << bits[lane] - 1) + 1);
            due.is("30: below 0, lane " + lane, x.whence(0, lane, 0, 1, 0), NOT);
        }
        x.sheet(0, 1, 1);
        x.item(0, 1, 0, 257);
        due.is("30: 257 stays in shorts", x.whence(0, 1, 0, 1, 0), NOT);
        x.sheet(0, 2, 1);
        x.item(0, 2, 0, 65537);
        due.is("30: 65537 stays in ints", x.whence(0, 2, 0, 1, 0), NOT);
        x.sheet(0, 3, 1);
        x.item(0, 3, 0, (1L << 32) + 1);
        due.is("30: all bits stay in longs", x.whence(0, 3, 0, 1, 0), NOT);
    }

    /** Whether items i on of a sheet of ints tell just these clerks, one by one: each has ways of its own. */
    private static void tells(String what, AshClerks x, int sheet, int i, int... want) {
        for (int k = 0; k < want.length; k++) {
            int got = x.whence(sheet, 2, i + k, 1, 1);
            due.is(what + ", item " + (i + k), got, 4 + 200 * want[k]);
        }
    }

    private static AshClerks withRow() {
        // a sheet of ints 0, 1, 2, 3, 4 of clerks at desks 0, 2, 4, 6, 8, whose first ways are 4, 204, ..
        AshClerks x = Due.with("10;p01/5,p21/5,p41/5,p61/5,p81/5");
        x.sheet(0, 2, 5);
        for (int k = 0; k < 5; k++) {
            x.item(0, 2, k, k);
        }
        return x;
    }

    private static void copy() {
        AshClerks x = withRow();
        tells("31: as it is", x, 0, 0, 0, 1, 2, 3, 4);
        x.sheet(1, 2, 6);
        due.is("31: three", x.copy(0, 2, 1, 1, 3), 3);
        tells("31: three", x, 1, 0, 0, 2, 3, 4, 0, 0);
        tells("31: the other stays", x, 0, 0, 0, 1, 2, 3, 4);
        due.is("31: all", x.copy(0, 0, 1, 1, 5), 5);
        tells("31: all", x, 1, 0, 0, 0, 1, 2, 3, 4);
        due.is("31: none", x.copy(0, 5, 1, 6, 0), 0);
        due.is("31: none", x.copy(0, 0, 1, 0, 0), 0);
        tells("31: none", x, 1, 0, 0, 0, 1, 2, 3, 4);
    }

    private static void copyIsRefused() {
        AshClerks x = withRow();
        due.is("31: BAD is ahead of NULL", x.copy(4, 0, 3, 0, 1), BAD);
        due.is("31: BAD is ahead of NULL", x.copy(3, 0, -1, 0, 1), BAD);
        due.is("31: BAD is ahead of NULL", x.copy(-1, 0, 3, 0, 1), BAD);
        due.is("31: BAD is ahead of NULL", x.copy(3, 0, 4, 0, 1), BAD);
        due.is("31: NULL is ahead of INDEX", x.copy(0, -1, 1, 0, 1), NULL);
        due.is("31: NULL is ahead of INDEX", x.copy(1, 0, 0, -1, 1), NULL);
        due.is("31: neither", x.copy(1, 0, 1, 0, -1), NULL);
        x.sheet(1, 3, 6);
        due.is("31: CAST is ahead of INDEX", x.copy(0, 0, 1, 0, -1), CAST);
        due.is("31: CAST, of no items too", x.copy(1, 0, 0, 0, 0), CAST);
        x.sheet(1, 2, 3);
        int[][] index = {{-1, 0, 1}, {0, -1, 1}, {0, 0, -1}, {0, 0, 4}, {0, 1, 3}, {5, 0, 1}, {0, 3, 1}, {4, 0, 2}, {6, 0, 0}, {0, 4, 0},
            {-1, 0, 0}, {0, -1, 0}, {MAX, 0, 1}, {0, MAX, 1}, {0, 0, MAX}, {MAX, MAX, MAX}, {MIN, MIN, MIN}, {1, 1, MAX}, {0, 0, MIN}};
        for (int[] b : index) {
            due.is("31: copy(0, " + b[0] + ", 1, " + b[1] + ", " + b[2] + ")", x.copy(0, b[0], 1, b[1], b[2]), INDEX);
        }
        tells("31: what is refused changes nothing", x, 1, 0, 0, 0, 0);
    }

    private static void copyOverItself() {
        AshClerks x = withRow();
        due.is("31: up", x.copy(0, 0, 0, 1, 4), 4);
        tells("31: up", x, 0, 0, 0, 0, 1, 2, 3);
        x = withRow();
        due.is("31: down", x.copy(0, 1, 0, 0, 4), 4);
        tells("31: down", x, 0, 0, 1, 2, 3, 4, 4);
        due.is("31: onto itself", x.copy(0, 0, 0, 0, 5), 5);
        tells("31: onto itself", x, 0, 0, 1, 2, 3, 4, 4);
    }
}
