/** Promises 16 to 25: what is foretold, and images. */
public final class ForetoldTest {
    private static final Due due = new Due();
    private static final int BAD = -1, NONE = -4;
    private static final int MIN = Integer.MIN_VALUE, MAX = Integer.MAX_VALUE;

    public static void main(String[] args) {
        ahead();
        pay();
        falls();
        worst();
        enough();
        seats();
        seatsOfLikeOnes();
        stop();
        stopByMinutes();
        luck();
        luckBySighs();
        nothingIsChanged();
        image();
        due.end();
    }

    private static void ahead() {
        AshClerks x = Due.with("12;p01/5,n01/98,s01/7x,c01,o01,o01/50");
        int[] behind5 = {10, 99, 7, 5, 3, 53};
        int[] behind120 = {99, 99, 7, 99, 60, 99};
        for (int c = 0; c < 6; c++) {
            due.is("16: behind 0", x.ahead(c, 0), x.of(c, 3));
            due.is("16: behind 5, clerk " + c, x.ahead(c, 5), behind5[c]);
            due.is("16: behind 120, clerk " + c, x.ahead(c, 120), behind120[c]);
        }
        x.minutes(1);
        due.is("16: from an odd minute", x.ahead(4, 1), 1);
        due.is("16: from an odd minute", x.ahead(4, 2), 2);
        int[][] bad = {{6, 0}, {-1, 0}, {0, -1}, {0, 121}, {MAX, 0}, {0, MIN}};
        for (int[] b : bad) {
            due.is("16: ahead(" + b[0] + ", " + b[1] + ")", x.ahead(b[0], b[1]), BAD);
        }
        due.is("16: nobody", new AshClerks().ahead(0, 0), BAD);
    }

    private static void pay() {
        AshClerks x = Due.with("32;p01/5,n01/98,s01/7x,c01,o01,o01/50");
        due.is("17: behind 0", x.pay(0), 3 * 160);
        due.is("17: behind 5", x.pay(5), 3 * (10 + 99 + 7 + 5 + 3 + 53));
        due.is("17: behind 120", x.pay(120), 3 * (99 + 99 + 7 + 99 + 60 + 99));
        due.is("17: -1", x.pay(-1), BAD);
        due.is("17: 121", x.pay(121), BAD);
        due.is("17: nobody", new AshClerks().pay(120), 0);
        AshClerks y = new AshClerks();
        for (int k = 0; k < 166; k++) {
            y.minutes(60);
        }
        y.clerk(0, 0, 1);
        due.is("17: beyond minute 9999", y.pay(120), 99);
    }

    private static void falls() {
        AshClerks x = Due.with("35;p01/20,n22/15,s41/40,p95/7x");
        due.is("18: none", x.falls(0, 1, 0), 0);
        due.is("18: none is lost", x.falls(0, 1, 1), 0);
        due.is("18: one", x.falls(0, 2, 0), 1);
        due.is("18: it costs", x.falls(0, 2, 1), 60);
        due.is("18: two", x.falls(0, 7, 0), 3);
        due.is("18: they cost", x.falls(0, 7, 1), 105);
        due.is("18: all but one that is laid down", x.falls(0, 99, 0), 7);
        due.is("18: they cost", x.falls(0, 99, 1), 225);
        int[][] bad = {{-1, 0, 0}, {10, 0, 0}, {0, -1, 0}, {0, 100, 0}, {0, 0, 2}, {0, 0, -1}, {MIN, MIN, MIN}};
        for (int[] b : bad) {
            due.is("18: falls(" + b[0] + ", " + b[1] + ", " + b[2] + ")", x.falls(b[0], b[1], b[2]), BAD);
        }
        AshClerks y = Due.with("34;p01/20,n21/15,s41/40");
        due.is("18: sighs with it: not far enough", y.falls(0, 2, 0), 1);
        y.rule(1, 5);
        due.is("18: sighs with it", y.falls(0, 2, 0), 3);
        due.is("18: sighs cost", y.falls(0, 2, 1), 105);
    }

    private static void worst() {
        AshClerks x = Due.with("32;p31/5,p91/50");
        due.is("19: the first of like desks", x.worst(3, 0), 8);
        due.is("19: how much", x.worst(3, 1), 150);
        due.is("19: of 0, the first desk", x.worst(0, 0), 0);
        due.is("19: of 0, nothing", x.worst(0, 1), 0);
        due.is("19: between them", x.worst(10, 0), 5);
        due.is("19: both", x.worst(10, 1), 165);
        due.is("19: all over", x.worst(99, 0), 0);
        int[][] bad = {{-1, 0}, {100, 0}, {0, 2}, {0, -1}, {MAX, 0}, {0, MIN}};
        for (int[] b : bad) {
            due.is("19: worst(" + b[0] + ", " + b[1] + ")", x.worst(b[0], b[1]), BAD);
        }
    }

    private static void enough() {
        AshClerks x = Due.with("12;p01/5,s99/5,p51/5x");
        due.is("20: one", x.enough(0, 1), 4);
        due.is("20: two", x.enough(0, 2), 51);
        due.is("20: three", x.enough(0, 3), NONE);
        due.is("20: from the other side, one", x.enough(9, 1), 22);
        due.is("20: from the other side, two", x.enough(9, 2), 33);
        due.is("20: six", x.enough(9, 6), NONE);
        int[][] bad = {{-1, 1}, {10, 1}, {0, 0}, {0, 7}, {0, MIN}, {MAX, 1}};
        for (int[] b : bad) {
            due.is("20: enough(" + b[0] + ", " + b[1] + ")", x.enough(b[0], b[1]), BAD);
        }
        x = Due.with("15;n81/5,n61/20,n41/30,n21/40,n01/50");
        due.is("20: sighs with it", x.enough(0, 5), 1);
        due.is("20: sighs with it", x.enough(8, 1), 1);
        due.is("20: sighs with it", x.enough(8, 2), 5);
        due.is("20: sighs with it", x.enough(8, 5), 5);
    }

    private static void seats() {
        AshClerks x = Due.with("32;p01/10,s95/5");
        due.is("21: changed, nothing is lost", x.seats(0, 5, NONE), 0);
        due.is("21: whose desk", x.seats(0, 5, 0), 1);
        due.is("21: whose desk", x.seats(0, 5, 1), 0);
        due.is("21: as they are, the first of like ones", x.seats(9, 5, 0), 0);
        due.is("21: as they are", x.seats(9, 5, 1), 1);
        due.is("21: the least that can be", x.seats(0, 99, NONE), 45);
        due.is("21: as they are", x.seats(0, 99, 1), 1);
        due.is("21: as they are, of all ways the cheapest", x.seats(0, 21, NONE), 30);
        due.is("21: as they are", x.seats(0, 21, 0), 0);
        AshClerks y = Due.with("32;p01/10,s91/5");
        due.is("21: something is lost", y.seats(0, 20, NONE), 15);
        due.is("21: the far seat is for the longer ash", y.seats(0, 20, 0), 1);
        int[][] bad = {{-1, 0, 0}, {10, 0, 0}, {0, -1, 0}, {0, 100, 0}, {0, 0, 2}, {0, 0, -1}, {0, 0, -2}, {0, 0, -3}, {0, 0, -5}, {10, 0, NONE}, {MIN, MAX, MIN}};
        for (int[] b : bad) {
            due.is("21: seats(" + b[0] + ", " + b[1] + ", " + b[2] + ")", x.seats(b[0], b[1], b[2]), BAD);
        }
        due.is("21: nobody", new AshClerks().seats(0, 99, NONE), 0);
        due.is("21: nobody", new AshClerks().seats(0, 99, 0), BAD);
        due.is("21: one", Due.with("12;p01/50").seats(9, 99, 0), 0);
        due.is("21: one", Due.with("12;p01/50").seats(9, 99, NONE), 50);
    }

    private static void seatsOfLikeOnes() {
        AshClerks x = Due.with("12;p01/10,s45/5,s95/5");
        int[] first = {1, 0, 2};
        AshClerks y = Due.with("12;p01/10,s05/5,s95/5");
        int[] twoAtOneDesk = {2, 0, 1};
        for (int c = 0; c < 3; c++) {
            due.is("21: the first of like ones", x.seats(0, 5, c), first[c]);
            due.is("21: two at one desk", y.seats(0, 5, c), twoAtOneDesk[c]);
        }
        AshClerks six = Due.with("12;n01/10,n11/10,n21/10,n31/10,n91/99,s09/5");
        // only who has the desk farthest off holds, so the longest ash stays there
        int[] asTheyAre = {0, 1, 2, 3, 4, 5};
        for (int c = 0; c < 6; c++) {
            due.is("21: six", six.seats(0, 18, c), asTheyAre[c]);
        }
        due.is("21: six", six.seats(0, 18, NONE), 40);
    }

    private static void stop() {
        AshClerks x = Due.with("12;p01,p01/95,p01/7x");
        due.is("22: behind the ninth", x.stop(0, 0, 3, 10, 0), 9);
        due.is("22: how long", x.stop(0, 0, 3, 10, 1), 9);
        due.is("22: the sixtieth shakes", x.stop(0, 0, 3, 60, 0), 59);
        due.is("22: how long", x.stop(0, 0, 3, 60, 1), 59);
        due.is("22: nothing falls", x.stop(0, 0, 0, 10, 0), 60);
        due.is("22: how long", x.stop(0, 0, 0, 10, 1), 60);
        due.is("22: the first of like ones", x.stop(1, 0, 0, 10, 0), 4);
        due.is("22: how long", x.stop(1, 0, 0, 10, 1), 99);
        due.is("22: now, if it falls each minute", x.stop(1, 0, 99, 1, 0), 0);
        due.is("22: how long", x.stop(1, 0, 99, 1, 1), 95);
        due.is("22: never any", x.stop(0, 0, 99, 1, 0), 0);
        due.is("22: how long", x.stop(0, 0, 99, 1, 1), 0);
        due.is("22: laid down", x.stop(2, 0, 99, 1, 0), 0);
        due.is("22: how long", x.stop(2, 0, 99, 1, 1), 7);
        int[][] bad = {{3, 0, 0, 1, 0}, {-1, 0, 0, 1, 0}, {0, -1, 0, 1, 0}, {0, 10, 0, 1, 0}, {0, 0, -1, 1, 0}, {0, 0, 100, 1, 0},
            {0, 0, 0, 0, 0}, {0, 0, 0, -1, 0}, {0, 0, 0, 61, 0}, {0, 0, 0, 1, 2}, {0, 0, 0, 1, -1}, {0, 0, 0, MIN, 0}};
        for (int[] b : bad) {
            due.is("22: stop(" + b[0] + ", " + b[1] + ", " + b[2] + ", " + b[3] + ", " + b[4] + ")", x.stop(b[0], b[1], b[2], b[3], b[4]), BAD);
        }
    }

    private static void stopByMinutes() {
        AshClerks x = Due.with("12;c09");
        due.is("22: cold in minute 10", x.stop(0, 0, 1, 10, 1), 9);
        due.is("22: cold in no minute of these", x.stop(0, 0, 1, 7, 1), 60);
        x.minutes(3);
        x.shake(0, 99);
        due.is("22: cold, seven from now", x.stop(0, 0, 1, 7, 0), 60);
        due.is("22: how long", x.stop(0, 0, 1, 7, 1), 53);
        x = Due.with("19;p01,p11/90,s01/90x");
        // the other's ash falls behind 5 minutes, and behind 35, when it is 30 again
        due.is("22: sighs with it", x.stop(0, 1, 1, 5, 0), 34);
        due.is("22: how long", x.stop(0, 1, 1, 5, 1), 29);
        x.rule(1, 2);
        due.is("22: a weak sigh", x.stop(0, 1, 1, 5, 1), 60);
    }

    private static void luck() {
        AshClerks x = Due.with("12;p01/5,p01x");
        oneLuck(x, 0, 3, 3, 10);
        oneLuck(x, 0, 4, 2, 5);
        oneLuck(x, 0, 0, 0, 1);
        oneLuck(x, 0, 10, 1, 1);
        oneLuck(x, 1, 10, 0, 1);
        x = Due.with("12;p01/5,p01x,p21x,p31x");
        oneLuck(x, 0, 3, 51, 100);
        oneLuck(x, 0, 5, 3, 4);
        x = Due.with("12;p01x,p01x,p01x,p01/5,p01x,p01x");
        oneLuck(x, 3, 1, 40951, 100000);
        oneLuck(x, 3, 9, 99999, 100000);
        oneLuck(x, 3, 5, 31, 32);
        oneLuck(x, 0, 5, 0, 1);
        oneLuck(Due.with("12;p01/50"), 0, 10, 0, 1);
        oneLuck(Due.with("12;p01,p01"), 0, 5, 0, 1);
        int[][] bad = {{6, 0, 0}, {-1, 0, 0}, {0, -1, 0}, {0, 11, 0}, {0, 0, 2}, {0, 0, -1}, {MIN, 0, 0}, {0, MAX, 0}};
        for (int[] b : bad) {
            due.is("23: luck(" + b[0] + ", " + b[1] + ", " + b[2] + ")", x.luck(b[0], b[1], b[2]), BAD);
        }
        due.is("23: nobody", new AshClerks().luck(0, 5, 0), BAD);
    }

    private static void oneLuck(AshClerks x, int clerk, int c, int above, int below) {
        due.is("23: luck(" + clerk + ", " + c + ", 0)", x.luck(clerk, c, 0), above);
        due.is("23: luck(" + clerk + ", " + c + ", 1)", x.luck(clerk, c, 1), below);
    }

    private static void luckBySighs() {
        AshClerks x = Due.with("19;p01/5,p41x,n21/20");
        oneLuck(x, 0, 2, 9, 25);
        x.rule(1, 2);
        oneLuck(x, 0, 2, 1, 5);
        // the cold one falls in minute 0 alone
        x = Due.with("12;c09/5,p41x");
        oneLuck(x, 0, 7, 7, 10);
        x.minutes(1);
        oneLuck(x, 0, 7, 0, 1);
    }

    private static void nothingIsChanged() {
        AshClerks x = Due.with("35;p01/20,n22/15,s41/40,c63/30,o82/30,p95/7x");
        x.minutes(4);
        String was = Due.state(x);
        x.ahead(1, 50);
        x.pay(70);
        x.falls(3, 50, 0);
        x.worst(50, 1);
        x.enough(4, 6);
        x.seats(4, 12, NONE);
        x.stop(0, 4, 9, 5, 1);
        x.luck(0, 7, 0);
        x.sheet(0, 2, 1);
        x.whence(0, 2, 0, 1, 0);
        x.image();
        due.holds("16 to 24, 26: nothing is changed by what is foretold", was.equals(Due.state(x)));
    }

    private static void image() {
        AshClerks x = Due.with("35;p01/20,n22/15x");
        due.is("25: there is none", x.restore(), NONE);
        x.minutes(2);
        x.lay(0);
        x.seed(99);
        x.sheet(1, 2, 3);
        String was = Due.state(x);
        due.is("24: kept", x.image(), 1);
        x.type('1');
        x.clerk(4, 4, 4);
        x.rule(0, 9);
        x.rule(1, 9);
        x.desk(0, 9);
        x.light(0);
        x.drift(30);
        x.sheet(2, 1, 5);
        due.is("25: restored", x.restore(), 1);
        due.holds("25: all is as it was", was.equals(Due.state(x)));
        due.is("25: the tape stays", x.type('1'), 2);
        due.is("25: sheets stay", x.drop(2), 5);
        due.is("25: sheets stay", x.drop(1), 3);
        due.is("25: what may be undone", x.undo(), 2);
        due.is("25: it smokes", x.of(0, 4), 1);
        due.is("25: what may be undone", x.undo(), 1);
        due.is("25: the minute", x.count(1), 1);
        due.is("25: again", x.restore(), 1);
        due.holds("25: all is as it was, again", was.equals(Due.state(x)));
        x.minutes(1);
        String later = Due.state(x);
        x.image();
        Due.office(x, "12;o99");
        x.restore();
        due.holds("24: a later image is in place of it", later.equals(Due.state(x)));
        x.undo();
        due.holds("25: and what it was ahead of it", x.count(1) == 2);
        imageKeepsThePast();
    }

    private static void imageKeepsThePast() {
        AshClerks x = Due.with("12;p01/20,o01/30");
        x.seed(7);
        x.drift(1);
        x.lay(0);
        x.shake(0, 99);
        x.image();
        String[] was = new String[3];
        for (int k = 0; k < 3; k++) {
            x.undo();
            was[k] = Due.state(x);
        }
        x.seed(5555);
        x.light(0);
        x.drift(40);
        x.lay(1);
        x.minutes(8);
        x.restore();
        for (int k = 0; k < 3; k++) {
            due.is("25: what may be undone", x.undo(), 2 - k);
            due.holds("25: undone as it was then, " + k, was[k].equals(Due.state(x)));
        }
    }
}
