/** Promises 1 to 8: clerks, desks, rules, offices, counts. */
public final class ClerksTest {
    private static final Due due = new Due();
    private static final int BAD = -1, FULL = -3, NONE = -4;

    public static void main(String[] args) {
        newObject();
        clerk();
        clerkIsRefused();
        of();
        holdsByKind();
        desk();
        rule();
        type();
        officeIsTaken();
        officeFaults();
        officeBlanks();
        officeLeaves();
        count();
        due.end();
    }

    private static void newObject() {
        AshClerks x = new AshClerks();
        int[] first = {0, 0, 1, 2, 0, 0, 0, 0, BAD};
        for (int what = 0; what < first.length; what++) {
            due.is("1: count(" + what + ")", x.count(what), first[what]);
        }
        due.is("1: seed", x.seed(5), 1);
        due.is("1: restore", x.restore(), NONE);
        due.is("1: undo", x.undo(), NONE);
        due.is("1: of(0, 0)", x.of(0, 0), BAD);
        due.is("1: an empty tape has its first letter", x.type('1'), 1);
        for (int s = 0; s < 4; s++) {
            due.is("1: drop(" + s + ")", x.drop(s), -11);
        }
        AshClerks y = new AshClerks();
        y.clerk(0, 0, 1);
        due.is("1: objects are apart", x.count(0), 0);
    }

    private static void clerk() {
        AshClerks x = new AshClerks();
        for (int c = 0; c < 6; c++) {
            due.is("2: clerk " + c, x.clerk(c % 5, 9 - c, 9 - c), c);
            due.is("2: how many", x.count(0), c + 1);
        }
        for (int c = 0; c < 6; c++) {
            due.is("2: kind", x.of(c, 0), c % 5);
            due.is("2: desk", x.of(c, 1), 9 - c);
            due.is("2: steady", x.of(c, 2), 9 - c);
            due.is("2: ash", x.of(c, 3), 0);
            due.is("2: smokes", x.of(c, 4), 1);
        }
        due.is("2: a seventh", x.clerk(0, 0, 1), FULL);
        due.is("2: BAD is ahead of FULL", x.clerk(5, 0, 1), BAD);
        due.is("2: six stay", x.count(0), 6);
        x = new AshClerks();
        x.clerk(0, 4, 1);
        due.is("2: several may be at one desk", x.clerk(0, 4, 1), 1);
        x.minutes(3);
        x.clerk(0, 4, 1);
        due.is("2: a new clerk leaves nothing to be undone", x.count(7), 0);
        due.is("2: nothing", x.undo(), NONE);
        due.is("2: the minute stays", x.count(1), 3);
        due.is("2: ash stays", x.of(0, 3), 3);
        due.is("2: ash of the new one", x.of(2, 3), 0);
    }

    private static void clerkIsRefused() {
        AshClerks x = new AshClerks();
        x.clerk(0, 0, 1);
        x.minutes(2);
        String was = Due.state(x);
        int[][] bad = {{-1, 0, 1}, {5, 0, 1}, {0, -1, 1}, {0, 10, 1}, {0, 0, 0}, {0, 0, 10},
            {Integer.MIN_VALUE, 0, 1}, {0, Integer.MAX_VALUE, 1}, {0, 0, Integer.MIN_VALUE}};
        for (int[] b : bad) {
            due.is("2: clerk " + b[0] + " " + b[1] + " " + b[2], x.clerk(b[0], b[1], b[2]), BAD);
        }
        due.holds("2: what is refused changes nothing", was.equals(Due.state(x)));
        due.is("2: the edges", x.clerk(4, 9, 9), 1);
        due.is("2: the edges", x.clerk(0, 0, 1), 2);
    }

    private static void of() {
        AshClerks x = Due.with("12;o37/45,s25x");
        int[] first = {4, 3, 7, 45, 1, 22};
        for (int what = 0; what < first.length; what++) {
            due.is("3: of(0, " + what + ")", x.of(0, what), first[what]);
        }
        due.is("3: of(0, 6)", x.of(0, 6), BAD);
        due.is("3: of(0, -1)", x.of(0, -1), BAD);
        due.is("3: of(2, 0)", x.of(2, 0), BAD);
        due.is("3: of(-1, 0)", x.of(-1, 0), BAD);
        due.is("3: of(6, 0)", x.of(6, 0), BAD);
        due.is("3: of(MIN, MIN)", x.of(Integer.MIN_VALUE, Integer.MIN_VALUE), BAD);
        due.is("3: laid down", x.of(1, 4), 0);
        due.is("3: laid down, holds", x.of(1, 5), 1000);
        due.is("3: the desk of one that is laid down", x.of(1, 1), 2);
    }

    private static void holdsByKind() {
        AshClerks x = Due.with("12;p01/99,n01/99,s01/99,c01/99,o01/99,p09/99");
        int[] atNought = {0, 0, 5, 0, 5, 18};
        for (int c = 0; c < 6; c++) {
            due.is("3: holds at least 0, clerk " + c, x.of(c, 5), atNought[c]);
        }
        x = Due.with("12;p04/29,n04/29,s04/29,c04/29,o04/29,n01/5");
        int[] inMinute0 = {10, 7, 15, 0, 15, 0};
        int[] inMinute1 = {9, 6, 14, 6, 14, 0};
        for (int c = 0; c < 6; c++) {
            due.is("3: holds in minute 0, clerk " + c, x.of(c, 5), inMinute0[c]);
        }
        x.minutes(1);
        for (int c = 0; c < 6; c++) {
            due.is("3: holds in minute 1, clerk " + c, x.of(c, 5), inMinute1[c]);
        }
        x.minutes(8);
        due.is("3: cold in minute 9", x.of(3, 5), 6);
        x.minutes(1);
        due.is("3: cold in minute 10", x.of(3, 5), 0);
        due.is("3: nervous in minute 10", x.of(1, 5), 6);
        x.minutes(1);
        due.is("3: cold in minute 11", x.of(3, 5), 5);
        AshClerks y = Due.with("12;c01/5");
        y.minutes(1);
        due.is("3: cold, at least 0", y.of(0, 5), 0);
        x.lay(3);
        due.is("3: cold, laid down", x.of(3, 5), 1000);
        x.minutes(9);
        due.is("3: cold, laid down in minute 20", x.of(3, 5), 1000);
    }

    private static void desk() {
        AshClerks x = Due.with("12;p31,n47");
        due.is("4: another", x.desk(0, 9), 3);
        due.is("4: it is there", x.of(0, 1), 9);
        due.is("4: the same", x.desk(0, 9), 9);
        due.is("4: desk 0", x.desk(0, 0), 9);
        due.is("4: the other stays", x.of(1, 1), 4);
        due.is("4: nothing to be undone by it", x.count(7), 0);
        String was = Due.state(x);
        due.is("4: no such clerk", x.desk(2, 0), BAD);
        due.is("4: no such clerk", x.desk(-1, 0), BAD);
        due.is("4: no such desk", x.desk(0, 10), BAD);
        due.is("4: no such desk", x.desk(0, -1), BAD);
        due.holds("4: what is refused changes nothing", was.equals(Due.state(x)));
        x.minutes(20);
        due.is("4: a shake goes by the new desk", x.shake(0, 5), 1);
    }

    private static void rule() {
        AshClerks x = new AshClerks();
        due.is("5: rate", x.rule(0, 9), 1);
        due.is("5: rate", x.rule(0, 1), 9);
        due.is("5: sigh", x.rule(1, 9), 2);
        due.is("5: sigh", x.rule(1, 0), 9);
        due.is("5: sigh", x.rule(1, 4), 0);
        int[][] bad = {{0, 0}, {0, 10}, {0, -1}, {1, -1}, {1, 10}, {2, 1}, {-1, 1}, {0, Integer.MIN_VALUE}};
        for (int[] b : bad) {
            due.is("5: rule(" + b[0] + ", " + b[1] + ")", x.rule(b[0], b[1]), BAD);
        }
        due.is("5: rate stays", x.count(2), 1);
        due.is("5: sigh stays", x.count(3), 4);
        x = Due.with("12;p91/10,p71/20,p01");
        due.is("5: rate pays", x.count(4), 30);
        x.rule(0, 7);
        due.is("5: rate pays", x.count(4), 210);
        due.is("5: a weak sigh", x.falls(9, 3, 0), 1);
        x.rule(1, 6);
        due.is("5: a strong sigh", x.falls(9, 3, 0), 3);
    }

    private static void type() {
        AshClerks x = new AshClerks();
        int[] bad = {31, 127, -1, 0, 256 + 49, Integer.MIN_VALUE, Integer.MAX_VALUE};
        for (int letter : bad) {
            due.is("6: type(" + letter + ")", x.type(letter), BAD);
        }
        due.is("6: the first letter", x.type(32), 1);
        due.is("6: the last letter", x.type(126), 2);
        for (int n = 3; n <= 70; n++) {
            due.is("6: letter " + n, x.type(' '), n);
        }
        due.is("6: a 71st", x.type(' '), FULL);
        due.is("6: BAD is ahead of FULL", x.type(31), BAD);
        due.is("6: all 70 are there", x.office(), -21);
        due.is("6: the tape is empty then", x.type('1'), 1);
    }

    private static void officeIsTaken() {
        AshClerks x = new AshClerks();
        x.clerk(0, 0, 1);
        x.minutes(5);
        x.seed(77);
        due.is("7: six", Due.office(x, "90;p01,n12/0,s23/7,c34/07x,o45/99,p99x"), 6);
        int[][] want = {{0, 0, 1, 0, 1}, {1, 1, 2, 0, 1}, {2, 2, 3, 7, 1}, {3, 3, 4, 7, 0}, {4, 4, 5, 99, 1}, {0, 9, 9, 0, 0}};
        for (int c = 0; c < 6; c++) {
            for (int what = 0; what < 5; what++) {
                due.is("7: of(" + c + ", " + what + ")", x.of(c, what), want[c][what]);
            }
        }
        int[] counts = {6, 0, 9, 0, 9 * 113, 1 + 2 + 4 + 16, 4 + 8 + 16, 0};
        for (int what = 0; what < counts.length; what++) {
            due.is("7: count(" + what + ")", x.count(what), counts[what]);
        }
        due.is("7: the draw stays", x.seed(1), 77);
        x.minutes(7);
        x.pay(20);
        due.is("7: in place of all", Due.office(x, "12;s55"), 1);
        due.is("7: minute 0, whatever was foretold", x.count(1), 0);
        due.is("7: old ash is not the next clerk's", x.of(x.clerk(0, 1, 1), 3) + x.of(x.clerk(0, 1, 1), 3) + x.of(x.clerk(0, 1, 1), 3), 0);
        due.is("7: in place of all", Due.office(x, "12;s55"), 1);
        due.is("7: one", x.count(0), 1);
        due.is("7: no old ash", x.of(0, 3), 0);
        due.is("7: smokes", x.count(5), 1);
        due.is("7: no clerk 1", x.of(1, 0), BAD);
    }

    private static void officeFaults() {
        String[] texts = {"", "0", "a", "1", "1a", "12", "12,", "123", "12;", "12;q", "12;P01", "12;,", "12;p", "12;pp",
            "12;p0", "12;p0x", "12;p00", "12;p012", "12;p01;", "12;p01/", "12;p01/x", "12;p01/,", "12;p01/1/", "12;p01/123",
            "12;p01/00x/", "12;p01xx", "12;p01x/1", "12;p01,", "12;p01,,", "12;p01x,x",
            "12;p01,p01,p01,p01,p01,p01,p01", "12;p01,p01,p01,p01,p01,p01,", "12;p01,p01,p01,p01,p01,p01;", "-2;p01", "1-2;p01",
            ":2;p01", "1:;p01", "1/;p01", "12;p:1", "12;p0:", "12;p01/:", "12;p01/1:", "12;p01/1/2"};
        int[] places = {0, 0, 0, 1, 1, 2, 2, 2, 3, 3, 3, 3, 4, 4,
            5, 5, 5, 6, 6, 7, 7, 7, 8, 9,
            10, 7, 7, 7, 7, 8,
            26, 26, 26, 0, 1,
            0, 1, 1, 4, 5, 7, 8, 8};
        for (int k = 0; k < texts.length; k++) {
            due.is("7: [" + texts[k] + "]", Due.office(new AshClerks(), texts[k]), -20 - places[k]);
        }
    }

    private static void officeBlanks() {
        AshClerks x = new AshClerks();
        due.is("7: blanks all over", Due.office(x, "  3 4 ; p 5 6 / 7 x , n 8 9 / 12  "), 2);
        due.is("7: rate", x.count(2), 3);
        due.is("7: sigh", x.count(3), 4);
        due.is("7: desk", x.of(0, 1), 5);
        due.is("7: steady", x.of(0, 2), 6);
        due.is("7: ash", x.of(0, 3), 7);
        due.is("7: laid", x.of(0, 4), 0);
        due.is("7: ash", x.of(1, 3), 12);
        String[] texts = {"   ", " 1 ", "12; ", "12;p01/1 2", "12;p01/ ", "  x", "12;p01/12 3", "12;p01  x  x", "12;p01,  "};
        int[] places = {3, 3, 4, 9, 8, 2, 10, 11, 9};
        for (int k = 0; k < texts.length; k++) {
            due.is("7: [" + texts[k] + "]", Due.office(new AshClerks(), texts[k]), -20 - places[k]);
        }
        StringBuilder full = new StringBuilder("12;p01");
        while (full.length() < 70) {
            full.append(' ');
        }
        due.is("7: blanks to the end of the tape", Due.office(new AshClerks(), full.toString()), 1);
        full.setCharAt(69, '/');
        due.is("7: a fault at the end of the tape", Due.office(new AshClerks(), full.toString()), -90);
        full.setCharAt(69, '?');
        due.is("7: a fault at the last letter", Due.office(new AshClerks(), full.toString()), -89);
    }

    private static void officeLeaves() {
        AshClerks x = Due.with("34;p01/5,o22x");
        x.minutes(3);
        x.seed(9);
        String was = Due.state(x);
        due.is("7: a fault", Due.office(x, "98;n11/7,c22/8?"), -34);
        due.holds("7: a fault leaves all else", was.equals(Due.state(x)));
        due.is("7: a fault empties the tape", x.type('1'), 1);
        due.is("7: what may be undone stays", x.undo(), 2);
        x.type('2');
        due.is("7: the tape goes on", Due.office(x, ";p01"), 1);
        due.is("7: rate 1", x.count(2), 1);
        due.is("7: an office leaves nothing to be undone", x.undo(), NONE);
        due.is("7: minute 0", x.count(1), 0);
        due.is("7: the tape is empty", x.office(), -20);
    }

    private static void count() {
        AshClerks x = Due.with("35;p01/4,n02x,s03/10x");
        x.minutes(2);
        int[] want = {3, 2, 3, 5, 3 * 16, 1, 5, 2};
        for (int what = 0; what < want.length; what++) {
            due.is("8: count(" + what + ")", x.count(what), want[what]);
        }
        x = Due.with("12;p01/1,p01/0,p01/2x");
        due.is("8: who has ash", x.count(6), 5);
        due.is("8: count(8)", x.count(8), BAD);
        due.is("8: count(-1)", x.count(-1), BAD);
        due.is("8: count(MIN)", x.count(Integer.MIN_VALUE), BAD);
    }
}
