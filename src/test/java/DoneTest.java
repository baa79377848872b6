/** Promises 9 to 15: minutes, shakes, laid down and lit, drifts, undone. */
public final class DoneTest {
    private static final Due due = new Due();
    private static final int BAD = -1, NOT = -2, FULL = -3, NONE = -4;

    public static void main(String[] args) {
        minutes();
        minutesAreFull();
        shake();
        shakeFarOff();
        sighs();
        lay();
        light();
        drift();
        driftShakes();
        undo();
        undoLeaves();
        undoKnowsEight();
        seed();
        due.end();
    }

    private static void minutes() {
        AshClerks x = Due.with("22;p01,n01/98,s01x,c01/7x,o01,o01/99");
        due.is("9: one minute", x.minutes(1), 2 * (1 + 99 + 0 + 7 + 1 + 99));
        due.is("9: a second", x.minutes(1), 2 * (2 + 99 + 0 + 7 + 1 + 99));
        due.is("9: 60 more", x.minutes(60), 2 * (62 + 99 + 0 + 7 + 31 + 99));
        due.is("9: the minute", x.count(1), 62);
        due.is("9: old ones in even minutes alone", x.of(4, 3), 31);
        due.is("9: 99 at most", x.of(1, 3), 99);
        String was = Due.state(x);
        int[] bad = {0, -1, 61, Integer.MIN_VALUE, Integer.MAX_VALUE};
        for (int n : bad) {
            due.is("9: minutes(" + n + ")", x.minutes(n), BAD);
        }
        due.holds("9: what is refused changes nothing", was.equals(Due.state(x)));
        x = Due.with("12;o01");
        x.minutes(1);
        due.is("9: minute 1 is odd", x.minutes(1), 1);
        due.is("9: minute 2 is even", x.minutes(1), 2);
    }

    private static void minutesAreFull() {
        AshClerks x = new AshClerks();
        for (int k = 0; k < 166; k++) {
            due.is("9: with nobody", x.minutes(60), 0);
        }
        due.is("9: minute 9960", x.count(1), 9960);
        due.is("9: above 9999", x.minutes(40), FULL);
        due.is("13: above 9999", x.drift(40), FULL);
        due.is("9: BAD is ahead of FULL", x.minutes(61), BAD);
        due.is("13: BAD is ahead of FULL", x.drift(61), BAD);
        due.is("9: nothing is changed", x.count(1), 9960);
        due.is("9: up to 9999", x.minutes(39), 0);
        due.is("9: one more", x.minutes(1), FULL);
        due.is("13: one more", x.drift(1), FULL);
        due.is("9: minute 9999", x.count(1), 9999);
        due.is("9: nothing more is known", x.count(7), 8);
        x.undo();
        due.is("13: up to 9999", x.drift(1), 0);
    }

    private static void shake() {
        AshClerks x = Due.with("12;p01/5");
        due.is("10: not more than it holds", x.shake(0, 3), 0);
        due.is("10: it is as it was", x.of(0, 3), 5);
        due.is("10: more than it holds", x.shake(0, 4), 1);
        due.is("10: fell", x.of(0, 3), 0);
        due.is("10: nothing falls of 0", x.shake(0, 99), 0);
        due.is("10: it smokes on", x.of(0, 4), 1);
        due.is("10: each may be undone", x.count(7), 3);
        String was = Due.state(x);
        int[][] bad = {{-1, 5}, {10, 5}, {0, -1}, {0, 100}, {Integer.MIN_VALUE, 5}, {0, Integer.MAX_VALUE}};
        for (int[] b : bad) {
            due.is("10: shake(" + b[0] + ", " + b[1] + ")", x.shake(b[0], b[1]), BAD);
        }
        due.holds("10: what is refused changes nothing", was.equals(Due.state(x)));
        x = Due.with("12;n01/5,c01/5,p01/5x");
        due.is("10: a shake of 0", x.shake(0, 0), 0);
        due.is("10: the least", x.shake(0, 1), 3);
        due.is("10: laid down, it holds whatever comes", x.shake(0, 99), 0);
        due.is("10: its ash", x.of(2, 3), 5);
        due.is("10: the minute stays", x.count(1), 0);
    }

    private static void shakeFarOff() {
        AshClerks x = Due.with("12;p01/5,p31/5,p91/5");
        due.is("10: less twice the desks that it is off", x.falls(0, 9, 0), 1);
        due.is("10: 4 come over 3 desks", x.falls(0, 10, 0), 3);
        due.is("10: 3 come over 9 desks", x.falls(0, 21, 0), 3);
        due.is("10: 4 come over 9 desks", x.falls(0, 22, 0), 7);
        due.is("10: from the other side", x.falls(9, 21, 0), 6);
        due.is("10: from the other side", x.falls(9, 22, 0), 7);
        due.is("10: shaken from between", x.shake(6, 10), 6);
    }

    private static void sighs() {
        AshClerks x = Due.with("19;p01/9,n21/5");
        due.is("10: of 9 it does not sigh", x.shake(0, 4), 1);
        x = Due.with("19;p01/10,n21/5");
        due.is("10: of 10 it sighs", x.shake(0, 4), 3);
        due.is("10: that is one to be undone", x.count(7), 1);
        x = Due.with("15;n81/5,n61/20,n41/30,n21/40,n01/50");
        due.is("10: sighs of sighs", x.shake(0, 1), 31);
        due.is("10: all fell", x.count(6), 0);
        x = Due.with("15;n81/5,n61/20,n41/9,n21/40,n01/50");
        due.is("10: until one that had less than 10", x.shake(0, 1), 28);
        x = Due.with("10;n01/50,n01/50x,n11/50");
        due.is("10: a sigh of 0", x.shake(0, 1), 1);
        x = Due.with("16;p01/10,s41/99,p61/10,p21/20");
        due.is("10: sighs come less far off, too", x.shake(0, 3), 1 + 8);
    }

    private static void lay() {
        AshClerks x = Due.with("12;p01/12,n01");
        due.is("11: laid", x.lay(0), 12);
        due.is("11: it does not smoke", x.of(0, 4), 0);
        due.is("11: it is", x.lay(0), NOT);
        due.is("11: that one may be undone", x.count(7), 1);
        x.minutes(3);
        due.is("11: no more ash", x.of(0, 3), 12);
        due.is("11: ash counts for pay", x.count(4), 15);
        due.is("11: it holds whatever comes", x.shake(0, 99), 2);
        int[] bad = {2, -1, 6, Integer.MAX_VALUE, Integer.MIN_VALUE};
        for (int c : bad) {
            due.is("11: lay(" + c + ")", x.lay(c), BAD);
        }
        due.is("11: the other", x.lay(1), 0);
        due.is("11: who smokes", x.count(5), 0);
    }

    private static void light() {
        AshClerks x = Due.with("12;p01/12x,n01");
        due.is("12: it smokes", x.light(1), NOT);
        due.is("12: nothing to be undone", x.count(7), 0);
        due.is("12: lit", x.light(0), 12);
        due.is("12: smokes on", x.of(0, 4), 1);
        due.is("12: it smokes now", x.light(0), NOT);
        due.is("12: that one may be undone", x.count(7), 1);
        x.minutes(3);
        due.is("12: more ash", x.of(0, 3), 15);
        due.is("12: it holds as its kind does", x.of(0, 5), 2);
        int[] bad = {2, -1, 6, Integer.MAX_VALUE, Integer.MIN_VALUE};
        for (int c : bad) {
            due.is("12: light(" + c + ")", x.light(c), BAD);
        }
        x.undo();
        x.undo();
        x.undo();
        due.is("12: undone", x.undo(), 0);
        due.is("12: it is laid down", x.of(0, 4), 0);
    }

    /** The draw as the document tells it, in longs. */
    private static long nextDraw(long draw) {
        return (draw * 1103515245L + 12345L) % 2147483648L;
    }

    private static void drift() {
        AshClerks x = new AshClerks();
        due.is("13: with nobody", x.drift(1), 0);
        due.is("13: from 1", x.seed(1), 1103527590);
        due.is("13: the minute", x.count(1), 1);
        x.drift(7);
        long draw = 1;
        for (int t = 0; t < 7; t++) {
            draw = nextDraw(draw);
        }
        due.is("13: seven", x.seed(2147483647), draw);
        x.drift(1);
        due.is("13: from the greatest", x.seed(0), nextDraw(2147483647L));
        x.drift(1);
        due.is("13: from 0", x.seed(0), 12345);
        String was = Due.state(x);
        int[] bad = {0, -1, 61, Integer.MIN_VALUE, Integer.MAX_VALUE};
        for (int n : bad) {
            due.is("13: drift(" + n + ")", x.drift(n), BAD);
        }
        due.holds("13: what is refused changes nothing", was.equals(Due.state(x)));
        x.minutes(5);
        due.is("13: minutes do not draw", x.seed(0), 0);
    }

    /** A drift is minutes, and shakes behind those whose draw asks for one. */
    private static void driftShakes() {
        String text = "35;p01/20,n22/15,s41/40,c63/3,o82/30,p95/7x";
        int shakes = 0;
        for (int seed = 1; seed < 60; seed++) {
            AshClerks x = Due.with(text);
            AshClerks y = Due.with(text);
            x.seed(seed * 1234567);
            long draw = seed * 1234567;
            int pay = x.drift(20);
            for (int t = 0; t < 20; t++) {
                y.minutes(1);
                draw = nextDraw(draw);
                if (draw / 65536 % 5 == 0) {
                    y.shake((int) (draw / 128 % 10), (int) (draw / 1024 % 20));
                    shakes++;
                }
            }
            due.is("13: pay by seed " + seed, pay, y.count(4));
            due.is("13: eight are known", x.count(7), 8);
            y.seed((int) draw);
            due.holds("13: all else", Due.state(x).replaceAll(" .\\|", "|").equals(Due.state(y).replaceAll(" .\\|", "|")));
        }
        due.holds("13: some shakes came", shakes > 100);
    }

    private static void undo() {
        AshClerks x = Due.with("12;p01/20,o01");
        x.minutes(2);
        x.shake(0, 3);
        x.lay(1);
        x.light(1);
        due.is("14: known", x.count(7), 5);
        due.is("14: lit is undone", x.undo(), 4);
        due.is("14: it does not smoke", x.count(5), 1);
        due.is("14: laid is undone", x.undo(), 3);
        due.is("14: it smokes", x.count(5), 3);
        due.is("14: the ash that fell", x.of(0, 3), 0);
        due.is("14: the shake is undone", x.undo(), 2);
        due.is("14: the ash stands", x.of(0, 3), 22);
        due.is("14: a minute is undone", x.undo(), 1);
        due.is("14: the minute", x.count(1), 1);
        due.is("14: the ash of one", x.of(0, 3), 21);
        due.is("14: the ash of another", x.of(1, 3), 1);
        due.is("14: a minute is undone", x.undo(), 0);
        due.is("14: the minute", x.count(1), 0);
        due.is("14: the ash of another", x.of(1, 3), 0);
        due.is("14: none is known", x.undo(), NONE);
        x.seed(5);
        x.drift(3);
        due.is("14: a drift's minutes", x.count(7), 3);
        x.undo();
        due.is("14: the draw is as ahead of it", x.seed(1), (int) nextDraw(nextDraw(5)));
    }

    private static void undoLeaves() {
        AshClerks x = Due.with("12;p01/20,o01");
        x.seed(40);
        x.minutes(1);
        x.desk(0, 7);
        x.rule(0, 6);
        x.rule(1, 8);
        x.seed(50);
        due.is("14: undone", x.undo(), 0);
        due.is("14: the desk stays", x.of(0, 1), 7);
        due.is("14: the rate stays", x.count(2), 6);
        due.is("14: the sigh stays", x.count(3), 8);
        due.is("14: the draw is as ahead of it, whatever was told since", x.seed(1), 40);
    }

    private static void undoKnowsEight() {
        AshClerks x = Due.with("12;p01");
        x.minutes(20);
        due.is("14: eight are known", x.count(7), 8);
        for (int left = 7; left >= 0; left--) {
            due.is("14: undone", x.undo(), left);
            due.is("14: ash", x.of(0, 3), 12 + left);
        }
        due.is("14: older ones are lost", x.undo(), NONE);
        due.is("14: minute", x.count(1), 12);
        x.minutes(3);
        x.undo();
        x.minutes(30);
        due.is("14: ash", x.of(0, 3), 44);
        due.is("14: eight again", x.count(7), 8);
        for (int left = 7; left >= 0; left--) {
            x.undo();
            due.is("14: ash", x.of(0, 3), 36 + left);
        }
        due.is("14: none", x.undo(), NONE);
    }

    private static void seed() {
        AshClerks x = new AshClerks();
        due.is("15: what it was", x.seed(0), 1);
        due.is("15: what it was", x.seed(2147483647), 0);
        due.is("15: below 0", x.seed(-1), BAD);
        due.is("15: below 0", x.seed(Integer.MIN_VALUE), BAD);
        due.is("15: what it was", x.seed(3), 2147483647);
        due.is("15: nothing to be undone", x.count(7), 0);
    }
}
