/** Promises 1 to 8, and AN OFFICE of part 3: what stands on the edge of each of their sentences. */
public final class ClerksEdgeTest {
    private static final Edges edges = new Edges();
    private static final int BAD = Edges.BAD, FULL = Edges.FULL, NONE = Edges.NONE, NULL = Edges.NULL;
    private static final String DIGITS = "0123456789";
    private static final String FROM_ONE = "123456789";
    private static final String KINDS = "pnsco";
    private static final String SIX = "12;p01,p01,p01,p01,p01,p01";

    public static void main(String[] args) throws Exception {
        edges.runAll(ClerksEdgeTest.class);
    }

    // ---- promise 1: "Desks, nobody"

    private static void promise01NobodyIsThere() {
        AshClerks x = new AshClerks();
        edges.are("count", x, (y, v) -> y.count(v), 0, 0, 1, 2, 0, 0, 0, 0);
        edges.is("no clerk 0", x.of(0, 0), BAD);
        edges.is("nothing to be undone", x.undo(), NONE);
        edges.is("no image", x.restore(), NONE);
        edges.is("the draw", x.seed(1), 1);
        for (int s = 0; s < 4; s++) {
            edges.is("sheet " + s + " is nothing", x.drop(s), NULL);
        }
        edges.is("the tape is empty", x.office(), -20);
    }

    private static void promise01WhatIsForetoldOfNobody() {
        AshClerks x = new AshClerks();
        edges.is("pay", x.pay(0) + x.pay(120), 0);
        edges.is("falls", x.falls(9, 99, 0) + x.falls(9, 99, 1), 0);
        edges.is("worst desk, the first of like ones", x.worst(99, 0), 0);
        edges.is("worst", x.worst(99, 1), 0);
        edges.is("enough", x.enough(0, 1), NONE);
        edges.is("seats", x.seats(0, 99, NONE), 0);
    }

    private static void promise01WhatIsDoneWithNobody() {
        AshClerks x = new AshClerks();
        edges.is("a shake", x.shake(9, 99), 0);
        edges.is("a minute", x.minutes(1), 0);
        edges.is("a drift", x.drift(1), 0);
        edges.is("three may be undone", x.count(7), 3);
        edges.is("undone", x.undo(), 2);
        edges.is("the draw is as it was", x.seed(1), 1);
        edges.is("the minute", x.count(1), 1);
    }

    private static void promise01ObjectsAreApart() {
        AshClerks x = new AshClerks();
        String was = Edges.stateNow(x);
        AshClerks y = Edges.six();
        y.minutes(60);
        edges.holds("another's clerks are not this one's", was.equals(Edges.stateNow(x)));
        edges.is("nor its tape", x.type('1'), 1);
        edges.is("nor its sheets", x.drop(0), NULL);
        edges.is("nor its image", x.restore(), NONE);
    }

    // "An object is used for at most 512 calls after it has been made"
    private static void promise01The512thCallIsAnswered() {
        AshClerks x = Due.with("12;p01/5");
        for (int call = 10; call <= 511; call++) {
            edges.is("call " + call, call % 2 == 0 ? x.lay(0) : x.light(0), 5);
        }
        edges.is("call 512", x.count(7), 8);
    }

    // ---- promise 2: "A CLERK: its number. BAD; FULL: 6"

    private static void promise02TheSixthIsTakenTheSeventhIsFull() {
        AshClerks x = new AshClerks();
        for (int c = 0; c < 6; c++) {
            edges.is("clerk", x.clerk(0, 0, 1), c);
        }
        edges.is("a seventh", x.clerk(0, 0, 1), FULL);
        edges.is("six", x.count(0), 6);
        edges.refused("a seventh, of all kinds", FULL, Edges::six, y -> y.clerk(4, 9, 9));
        edges.refused("a seventh, of all kinds", FULL, Edges::six, y -> y.clerk(0, 0, 1));
    }

    private static void promise02BehindAnOfficeOfFive() {
        AshClerks x = Due.with("12;p01,p01,p01,p01,p01");
        edges.is("the sixth", x.clerk(2, 3, 4), 5);
        edges.is("the seventh", x.clerk(2, 3, 4), FULL);
        edges.is("an office of one makes room", Due.office(x, "12;p01"), 1);
        edges.is("the second", x.clerk(2, 3, 4), 1);
    }

    private static void promise02EachNumberHasItsBounds() {
        edges.bounds("kind", 0, 4, Edges::nobody, (x, v) -> x.clerk(v, 9, 9));
        edges.bounds("desk", 0, 9, Edges::nobody, (x, v) -> x.clerk(4, v, 9));
        edges.bounds("steady", 1, 9, Edges::nobody, (x, v) -> x.clerk(4, 9, v));
    }

    private static void promise02ANewClerkLeavesNothingToBeUndone() {
        AshClerks x = Edges.three();
        String was = Due.state(x);
        edges.is("seven are known", x.count(7), 7);
        edges.is("its number", x.clerk(3, 0, 1), 3);
        edges.is("none is known", x.count(7), 0);
        edges.is("undone", x.undo(), NONE);
        String others = was.substring(was.indexOf('|'), was.indexOf(" draw"));
        edges.holds("the others are as they were", Due.state(x).contains(others));
    }

    private static void promise02ANewClerkInALaterMinute() {
        AshClerks x = Due.with("12;p01/98");
        x.minutes(3);
        x.clerk(4, 9, 9);
        edges.are("of", x, (y, v) -> y.of(1, v), 4, 9, 9, 0, 1, 32);
        edges.is("the minute stays", x.count(1), 3);
        edges.is("an odd minute makes an old one no ash", x.minutes(1), 99);
        edges.is("an even one does", x.minutes(1), 100);
    }

    // ---- promise 3: "0 KIND, 1 DESK, 2 STEADY, 3 ASH, 4 whether it SMOKES (1, 0), 5 how much it HOLDS now (1000 ..)"

    private static void promise03WhatIsNoughtToFive() {
        edges.bounds("what", 0, 5, Edges::three, (x, v) -> x.of(0, v));
        edges.bounds("what, of the last", 0, 5, Edges::six, (x, v) -> x.of(5, v));
    }

    private static void promise03TheLeastAndTheMost() {
        AshClerks x = Due.with("12;p01,o99/99x,s99");
        edges.are("the least", x, (y, v) -> y.of(0, v), 0, 0, 1, 0, 1, 3);
        edges.are("the most", x, (y, v) -> y.of(1, v), 4, 9, 9, 99, 0, 1000);
        edges.is("the most that one who smokes holds", x.of(2, 5), 32);
    }

    private static void promise03HoldsNow() {
        AshClerks x = Due.with("12;p01/9");
        edges.is("smokes", x.of(0, 5), 3);
        x.lay(0);
        edges.is("laid down", x.of(0, 5), 1000);
        x.light(0);
        edges.is("lit", x.of(0, 5), 3);
        x.minutes(1);
        edges.is("a tenth more", x.of(0, 5), 2);
        x.shake(0, 3);
        edges.is("fell", x.of(0, 5), 3);
        x.undo();
        edges.is("undone", x.of(0, 5), 2);
    }

    // ---- promise 4: "A CLERK is at another DESK (or the same): at which it was. BAD"

    private static void promise04TheSameDeskAndTheEnds() {
        AshClerks x = Due.with("12;p01,p91");
        edges.is("the same", x.desk(0, 0), 0);
        edges.is("from 0 to 9", x.desk(0, 9), 0);
        edges.is("the same", x.desk(0, 9), 9);
        edges.is("from 9 to 0", x.desk(1, 0), 9);
        edges.is("the desk of 0", x.of(0, 1), 9);
        edges.is("the desk of 1", x.of(1, 1), 0);
    }

    private static void promise04NoSuchDeskNoSuchClerk() {
        edges.bounds("desk", 0, 9, Edges::six, (x, v) -> x.desk(5, v));
        edges.bounds("clerk", 0, 5, Edges::six, (x, v) -> x.desk(v, 9));
    }

    private static void promise04IsNothingToBeUndone() {
        AshClerks x = Edges.three();
        x.desk(0, 5);
        edges.is("seven are known, as ahead of it", x.count(7), 7);
        x.undo();
        edges.is("the desk stays", x.of(0, 1), 5);
    }

    // ---- promise 5: "0 RATE, 1 SIGH becomes v: what it was. BAD"

    private static void promise05WhatIsNoughtOrOne() {
        edges.bounds("what", 0, 1, Edges::three, (x, v) -> x.rule(v, 5));
    }

    private static void promise05RateIsOneToNine() {
        edges.bounds("rate", 1, 9, Edges::six, (x, v) -> x.rule(0, v));
        AshClerks x = new AshClerks();
        edges.is("it was 1", x.rule(0, 9), 1);
        edges.is("it was 9", x.rule(0, 1), 9);
        edges.is("it is 1", x.count(2), 1);
        edges.is("sigh stays", x.count(3), 2);
    }

    private static void promise05SighIsNoughtToNine() {
        edges.bounds("sigh", 0, 9, Edges::six, (x, v) -> x.rule(1, v));
        AshClerks x = new AshClerks();
        edges.is("it was 2", x.rule(1, 0), 2);
        edges.is("it was 0", x.rule(1, 9), 0);
        edges.is("it was 9", x.rule(1, 0), 9);
        edges.is("it is 0", x.count(3), 0);
        edges.is("rate stays", x.count(2), 1);
    }

    // ---- promise 6: "One letter more behind THE TAPE: how many it has. BAD: not 32 .. 126; FULL: 70"

    private static void promise06Letters32To126() {
        edges.bounds("letter", 32, 126, Edges::three, (x, v) -> x.type(v));
        AshClerks x = new AshClerks();
        for (int letter = 32; letter <= 101; letter++) {
            edges.is("letter " + letter, x.type(letter), letter - 31);
        }
        AshClerks y = new AshClerks();
        for (int letter = 102; letter <= 126; letter++) {
            edges.is("letter " + letter, y.type(letter), letter - 101);
        }
    }

    private static void promise06TheSeventiethIsTakenThe71stIsFull() {
        AshClerks x = typed("12;p01", 69);
        edges.is("the seventieth", x.type('x'), 70);
        edges.is("the 71st", x.type('x'), FULL);
        edges.is("a blank", x.type(' '), FULL);
        edges.is("all 70 are read", x.office(), 1);
        edges.is("the last letter was read", x.of(0, 4), 0);
        edges.refused("the 71st", FULL, () -> typed("12;p01", 70), y -> y.type('x'));
        edges.is("the tape is empty behind an office", x.type('1'), 1);
    }

    /** A tape with a text and blanks behind it, so that it has so many letters. */
    private static AshClerks typed(String text, int letters) {
        AshClerks x = new AshClerks();
        for (int k = 0; k < letters; k++) {
            x.type(k < text.length() ? text.charAt(k) : ' ');
        }
        return x;
    }

    // ---- promise 7: "THE TAPE, which is empty then, is AN OFFICE: how many CLERKS. A FAULT (all else stays)"

    private static void promise07AnEmptyTapeIsAFault() {
        edges.is("on a new object", new AshClerks().office(), -20);
        AshClerks x = Edges.three();
        x.office();
        edges.is("behind a fault", x.office(), -20);
        edges.refused("an empty tape", -20, () -> {
            AshClerks y = Edges.three();
            y.office();
            return y;
        }, y -> y.office());
    }

    private static void promise07TheTapeIsEmptyThen() {
        AshClerks x = Due.with("12;p01");
        edges.is("behind an office", x.type('1'), 1);
        edges.is("a fault", x.office(), -21);
        edges.is("behind a fault", x.type('1'), 1);
    }

    private static void promise07AFullTape() {
        AshClerks x = typed("12;p01", 70);
        edges.is("an office of 70 letters", x.office(), 1);
        x = typed("12;p01/", 70);
        edges.is("a fault at the end of 70", x.office(), -90);
        x = typed("12;p01", 69);
        x.type('?');
        edges.is("a fault at the last of 70", x.office(), -89);
        x = typed("", 70);
        edges.is("70 blanks", x.office(), -90);
    }

    private static void promise07AllElseStaysBehindAFault() {
        AshClerks x = Edges.six();
        String was = Edges.stateNow(x);
        String texts = "p01/50,n02x";
        for (int k = 0; k < texts.length(); k++) {
            x.type(texts.charAt(k));
        }
        x.type('x');
        edges.is("a fault behind two clerks", x.office(), -20 - 14);
        edges.holds("all else stays", was.equals(Edges.stateNow(x)));
        edges.is("seven are known", x.count(7), 7);
        edges.holds("what is known", Edges.pastOf(x).equals(Edges.pastOf(Edges.six())));
    }

    private static void promise07NoLetterOfAnEarlierTapeIsRead() {
        String text = "12;p01/9x,n23";
        for (int end = 0; end < text.length(); end++) {
            if (end != 6 && end != 8 && end != 9) {
                AshClerks x = Due.with(text);
                edges.is("the first " + end + " behind all", Due.office(x, text.substring(0, end)), -20 - end);
                AshClerks y = typed(text, 70);
                y.office();
                edges.is("the first " + end + " behind all with blanks", Due.office(y, text.substring(0, end)), -20 - end);
                AshClerks z = typed("", 70);
                z.office();
                edges.is("the first " + end + " behind blanks", Due.office(z, text.substring(0, end)), -20 - end);
            }
        }
        AshClerks x = Due.with("12;p01/99x");
        edges.is("one digit behind two", Due.office(x, "12;p01/5"), 1);
        edges.is("its ash", x.of(0, 3), 5);
        edges.is("it smokes", x.of(0, 4), 1);
        edges.is("no ash behind that", Due.office(x, "12;p01"), 1);
        edges.is("none", x.of(0, 3), 0);
    }

    // ---- promise 8: "0 CLERKS, 1 the MINUTE, 2 RATE, 3 SIGH, 4 PAY of all, 5 who SMOKES, 6 who has ASH, 7 .. UNDONE. BAD"

    private static void promise08WhatIsNoughtToSeven() {
        edges.bounds("what", 0, 7, Edges::three, (x, v) -> x.count(v));
        edges.bounds("what, of nobody", 0, 7, Edges::nobody, (x, v) -> x.count(v));
    }

    private static void promise08TheLeastAndTheMost() {
        edges.are("the least", new AshClerks(), (y, v) -> y.count(v), 0, 0, 1, 2, 0, 0, 0, 0);
        AshClerks x = Due.with("99;p01/99,p01/99,p01/99,p01/99,p01/99,p01/99");
        for (int k = 0; k < 166; k++) {
            x.minutes(60);
        }
        x.minutes(39);
        edges.are("the most", x, (y, v) -> y.count(v), 6, 9999, 9, 9, 5346, 63, 63, 8);
    }

    private static void promise08WhoHasAshOfOne() {
        AshClerks x = Due.with("12;p01/0,p01/1,p01/0x,p01/1x,p01/0,p01/1");
        edges.is("who smokes", x.count(5), 1 + 2 + 16 + 32);
        edges.is("who has ash", x.count(6), 2 + 8 + 32);
    }

    // ---- part 3: "AN OFFICE is a TEXT"

    /** Behind a start just these letters can stand, if an end follows; any other is a fault at its place. */
    private static void canStand(String start, String letters, String end) {
        canStand(start, letters, "", end);
    }

    /** Likewise; the others can stand there, too, but what follows can't stand behind them. */
    private static void canStand(String start, String letters, String others, String end) {
        for (char letter = 33; letter <= 126; letter++) {
            String text = start + letter + end;
            int got = Due.office(new AshClerks(), text);
            if (letters.indexOf(letter) >= 0) {
                edges.holds("[" + text + "] is an office, answered " + got, got > 0);
            } else {
                edges.is("[" + text + "]", got, -20 - start.length() - (others.indexOf(letter) >= 0 ? 1 : 0));
            }
        }
        if (!letters.isEmpty()) {
            char last = letters.charAt(letters.length() - 1);
            int got = Due.office(new AshClerks(), start + "  " + last + end);
            edges.holds("blanks behind [" + start + "], answered " + got, got > 0);
            edges.is("blanks and ? behind [" + start + "]", Due.office(new AshClerks(), start + "  ?" + end), -20 - start.length() - 2);
        }
    }

    private static void part3OfficeBeginsWithADigitFromOne() {
        canStand("", FROM_ONE, "2;p01");
        for (int rate = 1; rate <= 9; rate++) {
            edges.is("rate", Due.with(rate + "2;p01").count(2), rate);
        }
    }

    private static void part3OfficeThenADigit() {
        canStand("1", DIGITS, ";p01");
        for (int sigh = 0; sigh <= 9; sigh++) {
            edges.is("sigh", Due.with("1" + sigh + ";p01").count(3), sigh);
        }
    }

    private static void part3OfficeThenASemicolon() {
        canStand("12", ";", "p01");
    }

    private static void part3OfficeKindsInThisOrder() {
        canStand("12;", KINDS, "01");
        canStand("12;p01,", KINDS, "01");
        for (int kind = 0; kind < 5; kind++) {
            edges.is("kind", Due.with("12;" + KINDS.charAt(kind) + "01").of(0, 0), kind);
        }
    }

    private static void part3OfficeDeskIsADigit() {
        canStand("12;p", DIGITS, "1");
        for (int desk = 0; desk <= 9; desk++) {
            edges.is("desk", Due.with("12;p" + desk + "1").of(0, 1), desk);
        }
    }

    private static void part3OfficeSteadyIsADigitFromOne() {
        canStand("12;p0", FROM_ONE, "");
        canStand("12;p01,p0", FROM_ONE, "/5x");
        for (int steady = 1; steady <= 9; steady++) {
            edges.is("steady", Due.with("12;p0" + steady).of(0, 2), steady);
        }
    }

    private static void part3OfficeBehindSteady() {
        canStand("12;p01", "x", "/,", "");
        canStand("12;p01", "/", ",x", "7");
        canStand("12;p01", ",", "/x", "n01");
    }

    private static void part3OfficeAshIsANumber() {
        canStand("12;p01/", DIGITS, "");
        canStand("12;p01/", DIGITS, "x");
        for (int ash = 0; ash <= 99; ash++) {
            edges.is("ash", Due.with("12;p01/" + ash).of(0, 3), ash);
            edges.is("ash in two digits", Due.with("12;p01/" + ash / 10 + ash % 10 + ",n01").of(0, 3), ash);
        }
    }

    private static void part3OfficeAThirdDigitCantStand() {
        canStand("12;p01/5", DIGITS + "x", ",", "");
        canStand("12;p01/55", "x", ",", "");
        edges.is("100", Due.office(new AshClerks(), "12;p01/100"), -29);
        edges.is("000", Due.office(new AshClerks(), "12;p01/000"), -29);
        edges.is("007", Due.office(new AshClerks(), "12;p01/007"), -29);
        edges.is("999 of a later one", Due.office(new AshClerks(), "12;p01/99,p01/999x"), -36);
    }

    private static void part3OfficeXStandsOnceAndLast() {
        canStand("12;p01x", "", ",", "");
        canStand("12;p01x", ",", "p01");
        canStand("12;p01/9x", "", ",", "");
        edges.is("x", Due.with("12;p01/9x").of(0, 4), 0);
        edges.is("no x", Due.with("12;p01/9").of(0, 4), 1);
        edges.is("x without ash", Due.with("12;p01x").count(5), 0);
        edges.is("/ behind x", Due.office(new AshClerks(), "12;p01x/9"), -27);
    }

    private static void part3OfficeHasOneToSixClerks() {
        edges.is("none", Due.office(new AshClerks(), "12;"), -23);
        StringBuilder text = new StringBuilder("12;p01");
        for (int n = 1; n <= 6; n++) {
            edges.is("clerks", Due.office(new AshClerks(), text.toString()), n);
            text.append(",p01");
        }
        edges.is("a seventh can't stand there, from its comma on", Due.office(new AshClerks(), text.toString()), -46);
        canStand(SIX, "x", "/", "");
        canStand(SIX, "/", "x", "5");
        canStand(SIX + "/5x", "", "");
        canStand("12;p01,p01,p01,p01,p01", ",", "/x", "p01");
    }

    private static void part3OfficeEndsTooEarly() {
        String text = "12;p01/9x,n23";
        boolean[] stands = new boolean[text.length() + 1];
        stands[6] = true;
        stands[8] = true;
        stands[9] = true;
        stands[13] = true;
        for (int end = 0; end <= text.length(); end++) {
            int got = Due.office(new AshClerks(), text.substring(0, end));
            int blank = Due.office(new AshClerks(), text.substring(0, end) + " ");
            if (stands[end]) {
                edges.is("the first " + end, got, end < 10 ? 1 : 2);
                edges.is("the first " + end + " and a blank", blank, end < 10 ? 1 : 2);
            } else {
                edges.is("the end: how many there are, of " + end, got, -20 - end);
                edges.is("the end: a blank is one of them, of " + end, blank, -20 - end - 1);
            }
        }
    }

    private static void part3OfficeBlanksCountForNothing() {
        String text = "39;c45/67x,o81/20,p93x";
        String want = Due.state(Due.with(text));
        for (int place = 0; place <= text.length(); place++) {
            AshClerks x = new AshClerks();
            int got = Due.office(x, text.substring(0, place) + " " + text.substring(place));
            if (place == 8 || place == 16) {
                edges.is("a blank at " + place + " ends a number", got, -20 - place - 1);
            } else {
                edges.is("a blank at " + place, got, 3);
                edges.holds("a blank at " + place + " counts for nothing", want.equals(Due.state(x)));
            }
        }
    }

    private static void part3OfficeBlanksEndANumber() {
        edges.is("two digits", Due.with("12;p01/12").of(0, 3), 12);
        edges.is("a blank between", Due.office(new AshClerks(), "12;p01/1 2"), -29);
        edges.is("blanks between", Due.office(new AshClerks(), "12;p01/1   2"), -31);
        edges.is("a blank ahead", Due.with("12;p01/ 12").of(0, 3), 12);
        edges.is("a blank behind", Due.with("12;p01/1 x").of(0, 3), 1);
        edges.is("a third behind a blank", Due.office(new AshClerks(), "12;p01/12 3"), -30);
        edges.is("rate and sigh are a digit each", Due.with("1 2;p 0 1").count(3), 2);
    }

    private static void part3OfficeIsInPlaceOfAll() {
        AshClerks x = Edges.six();
        int draw = x.seed(0);
        x.seed(draw);
        x.office();
        edges.is("an office", Due.office(x, "40;n17"), 1);
        edges.are("count", x, (y, v) -> y.count(v), 1, 0, 4, 0, 0, 1, 0, 0);
        edges.are("of", x, (y, v) -> y.of(0, v), 1, 1, 7, 0, 1, 18);
        edges.is("no clerk 1", x.of(1, 0), BAD);
        edges.is("the draw stays", x.seed(1), draw);
        edges.is("the next clerk", x.clerk(0, 0, 1), 1);
        edges.is("has no ash", x.of(1, 3), 0);
        edges.is("smokes", x.count(5), 3);
        edges.is("the image stays", x.restore(), 1);
        edges.is("as it was", x.count(0), 6);
    }

    private static void part3OfficeLeavesNothingToBeUndone() {
        AshClerks x = Edges.three();
        x.office();
        edges.is("behind a fault seven are known", x.count(7), 7);
        Due.office(x, "12;p01");
        edges.is("none is known", x.count(7), 0);
        edges.is("undone", x.undo(), NONE);
        x.minutes(1);
        edges.is("one is known", x.undo(), 0);
        edges.is("minute 0", x.count(1), 0);
    }

    private static void part3OfficeFirstFaultCounts() {
        edges.is("of two the first", Due.office(new AshClerks(), "1?;?"), -21);
        edges.is("rate 0 ahead of a wrong sigh", Due.office(new AshClerks(), "0?"), -20);
        edges.is("kind ahead of desk", Due.office(new AshClerks(), "12;P:0"), -23);
        edges.is("behind blanks", Due.office(new AshClerks(), "   0"), -23);
        edges.is("the second clerk", Due.office(new AshClerks(), "12;p01,p00,p00"), -29);
    }
}
