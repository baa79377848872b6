/** Counts the answers that are not the due ones; every test of the project ends with end(). */
final class Due {
    private int wrong = 0;
    private int asked = 0;

    void is(String call, long got, long want) {
        asked++;
        if (got != want) {
            wrong++;
            System.out.println(call + " answered " + got + ", due is " + want);
        }
    }

    void holds(String what, boolean so) {
        asked++;
        if (!so) {
            wrong++;
            System.out.println("not so: " + what);
        }
    }

    boolean allRight() {
        return wrong == 0;
    }

    void end() {
        System.out.println(wrong == 0 ? asked + " answers are as due" : wrong + " of " + asked + " answers are not as due");
        if (wrong != 0) {
            System.exit(1);
        }
    }

    /** Types a text on an object's tape and reads it as an office. */
    static int office(AshClerks x, String text) {
        for (int i = 0; i < text.length(); i++) {
            x.type(text.charAt(i));
        }
        return x.office();
    }

    /** A new object with an office. */
    static AshClerks with(String text) {
        AshClerks x = new AshClerks();
        if (office(x, text) < 1) {
            throw new IllegalStateException("no office: " + text);
        }
        return x;
    }

    /** All that an object tells of itself and that refused calls must leave as it is, in one text. */
    static String state(AshClerks x) {
        StringBuilder told = new StringBuilder();
        for (int what = 0; what <= 7; what++) {
            told.append(x.count(what)).append(' ');
        }
        for (int c = 0; c < x.count(0); c++) {
            for (int what = 0; what <= 5; what++) {
                told.append(what == 0 ? '|' : ',').append(x.of(c, what));
            }
        }
        int draw = x.seed(0);
        x.seed(draw);
        return told.append(" draw ").append(draw).toString();
    }
}
