/** A counting-house where clerks are paid by the length of their ash; see README.md for its use. */
public final class AshClerks {
    public static final int BAD = -1, NOT = -2, FULL = -3, NONE = -4, NULL = -11, CAST = -12, INDEX = -13, SIZE = -14;

    private static final int DESKS = 10;
    private static final int CLERKS = 6;
    private static final int MOST_STEADY = 9;
    private static final int MOST_ASH = 99;
    private static final int MOST_FORCE = 99;
    private static final int MOST_RATE = 9;
    private static final int MOST_SIGH = 9;
    private static final int MOST_MINUTES = 60;
    private static final int LAST_MINUTE = 9999;
    private static final int FAR_AHEAD = 120;
    private static final int STOP_WITHIN = 60;
    private static final int SIGHING_ASH = 10;
    private static final int HOLDS_ALL = 1000;
    private static final int LAUGH = 9;
    private static final int LAUGH_ODDS = 10;
    private static final int WHENCE_FORCE = 40;
    private static final int ORDERS = 720;

    private static final int PLAIN = 0, NERVOUS = 1, STILL = 2, COLD = 3, OLD = 4, KINDS = 5;

    private static final int LETTERS = 70;
    private static final int FIRST_LETTER = 32, LAST_LETTER = 126;
    private static final int NO_LETTER = -1;
    private static final int FAULT = -20;

    private static final int KNOWN = 8;

    private static final int SHEETS = 4;
    private static final int LANES = 4;
    private static final int ITEMS = 24;

    private final Room now;
    // what is foretold is played here, so that nothing is changed in the room of now
    private final Room trial;
    private final Past past;
    private final Tape tape;
    private final Seating seating;
    private final Sheet[] sheets;

    private final Room keptRoom;
    private final Past keptPast;
    private boolean kept;

    public AshClerks() {
        now = new Room();
        trial = new Room();
        past = new Past();
        tape = new Tape();
        seating = new Seating();
        sheets = new Sheet[SHEETS];
        for (int s = 0; s < SHEETS; s++) {
            sheets[s] = new Sheet();
        }
        keptRoom = new Room();
        keptPast = new Past();
    }

    // ---- 1 clerks, desks

    public int clerk(int kind, int desk, int steady) {
        if (kind < 0 || kind >= KINDS || !isDesk(desk) || steady < 1 || steady > MOST_STEADY) {
            return BAD;
        }
        if (now.size >= CLERKS) {
            return FULL;
        }
        now.seatNew(kind, desk, steady);
        past.forget();
        return now.size - 1;
    }

    public int of(int clerk, int what) {
        if (!isClerk(clerk)) {
            return BAD;
        }
        switch (what) {
            case 0:
                return now.kind[clerk];
            case 1:
                return now.seat[clerk];
            case 2:
                return now.steady[clerk];
            case 3:
                return now.ash[clerk];
            case 4:
                return now.isSmoking(clerk) ? 1 : 0;
            case 5:
                return now.holds(clerk);
            default:
                return BAD;
        }
    }

    public int desk(int clerk, int desk) {
        if (!isClerk(clerk) || !isDesk(desk)) {
            return BAD;
        }
        int was = now.seat[clerk];
        now.seat[clerk] = desk;
        return was;
    }

    public int rule(int what, int v) {
        int was;
        if (what == 0 && v >= 1 && v <= MOST_RATE) {
            was = now.rate;
            now.rate = v;
        } else if (what == 1 && v >= 0 && v <= MOST_SIGH) {
            was = now.sigh;
            now.sigh = v;
        } else {
            was = BAD;
        }
        return was;
    }

    public int type(int letter) {
        if (letter < FIRST_LETTER || letter > LAST_LETTER) {
            return BAD;
        }
        return tape.put(letter);
    }

    public int office() {
        int answer = tape.read(trial);
        tape.clear();
        if (answer >= 0) {
            trial.draw = now.draw;
            now.take(trial);
            past.forget();
        }
        return answer;
    }

    public int count(int what) {
        switch (what) {
            case 0:
                return now.size;
            case 1:
                return now.minute;
            case 2:
                return now.rate;
            case 3:
                return now.sigh;
            case 4:
                return now.worth();
            case 5:
                return now.smoking;
            case 6:
                return now.withAsh();
            case 7:
                return past.known;
            default:
                return BAD;
        }
    }

    // ---- what is done

    public int minutes(int n) {
        int refusal = refusalOfMinutes(n);
        if (refusal != 0) {
            return refusal;
        }
        for (int t = 0; t < n; t++) {
            past.note(now);
            now.grow();
        }
        return now.worth();
    }

    public int shake(int desk, int g) {
        if (!isDesk(desk) || !isForce(g)) {
            return BAD;
        }
        past.note(now);
        return now.jolt(desk, g);
    }

    public int lay(int clerk) {
        if (!isClerk(clerk)) {
            return BAD;
        }
        if (!now.isSmoking(clerk)) {
            return NOT;
        }
        past.note(now);
        now.smoking &= ~(1 << clerk);
        return now.ash[clerk];
    }

    public int light(int clerk) {
        if (!isClerk(clerk)) {
            return BAD;
        }
        if (now.isSmoking(clerk)) {
            return NOT;
        }
        past.note(now);
        now.smoking |= 1 << clerk;
        return now.ash[clerk];
    }

    public int drift(int n) {
        int refusal = refusalOfMinutes(n);
        if (refusal != 0) {
            return refusal;
        }
        for (int t = 0; t < n; t++) {
            past.note(now);
            now.grow();
            now.joltByDraw();
        }
        return now.worth();
    }

    public int undo() {
        if (past.known == 0) {
            return NONE;
        }
        past.giveBack(now);
        return past.known;
    }

    public int seed(int v) {
        if (v < 0) {
            return BAD;
        }
        int was = now.draw;
        now.draw = v;
        return was;
    }

    // ---- 2 foretold

    public int ahead(int clerk, int n) {
        if (!isClerk(clerk) || !isAhead(n)) {
            return BAD;
        }
        growTrial(n);
        return trial.ash[clerk];
    }

    public int pay(int n) {
        if (!isAhead(n)) {
            return BAD;
        }
        growTrial(n);
        return trial.worth();
    }

    public int falls(int desk, int g, int what) {
        if (!isDesk(desk) || !isForce(g) || !isEither(what)) {
            return BAD;
        }
        int fallen = fallenIf(desk, g);
        return what == 0 ? fallen : lostInTrial();
    }

    public int worst(int g, int what) {
        if (!isForce(g) || !isEither(what)) {
            return BAD;
        }
        int worstDesk = 0;
        int most = 0;
        for (int d = 0; d < DESKS; d++) {
            fallenIf(d, g);
            int lost = lostInTrial();
            if (lost > most) {
                worstDesk = d;
                most = lost;
            }
        }
        return what == 0 ? worstDesk : most;
    }

    public int enough(int desk, int k) {
        if (!isDesk(desk) || k < 1 || k > CLERKS) {
            return BAD;
        }
        for (int g = 0; g <= MOST_FORCE; g++) {
            if (Integer.bitCount(fallenIf(desk, g)) >= k) {
                return g;
            }
        }
        return NONE;
    }

    public int seats(int desk, int g, int clerk) {
        if (!isDesk(desk) || !isForce(g) || clerk != NONE && !isClerk(clerk)) {
            return BAD;
        }
        int least = leastLoss(desk, g);
        return clerk == NONE ? least : seating.best[clerk];
    }

    public int stop(int clerk, int desk, int g, int p, int what) {
        if (!isClerk(clerk) || !isDesk(desk) || !isForce(g) || p < 1 || p > STOP_WITHIN || !isEither(what)) {
            return BAD;
        }
        trial.take(now);
        int longest = now.ash[clerk];
        int when = 0;
        for (int t = 1; t <= STOP_WITHIN; t++) {
            trial.grow();
            if (t % p == 0) {
                trial.jolt(desk, g);
            }
            if (trial.ash[clerk] > longest) {
                longest = trial.ash[clerk];
                when = t;
            }
        }
        return what == 0 ? when : longest;
    }

    public int luck(int clerk, int c, int what) {
        if (!isClerk(clerk) || c < 0 || c > LAUGH_ODDS || !isEither(what)) {
            return BAD;
        }
        int above = 0;
        int below = 0;
        int sets = 1 << now.size;
        for (int laughing = 0; laughing < sets; laughing++) {
            if (((laughing >> clerk) & 1) == 0) {
                int ways = waysToLaugh(clerk, laughing, c);
                below += ways;
                if (ways > 0 && fallsByLaughs(clerk, laughing)) {
                    above += ways;
                }
            }
        }
        // below is a power of ten, so this divides neither by 0 nor to a fraction
        int common = Math.max(1, commonDivisor(above, below));
        return what == 0 ? above / common : below / common;
    }

    public int image() {
        keptRoom.take(now);
        keptPast.take(past);
        kept = true;
        return 1;
    }

    public int restore() {
        if (!kept) {
            return NONE;
        }
        now.take(keptRoom);
        past.take(keptPast);
        return 1;
    }

    // ---- 3 sheets

    public int whence(int sheet, int lane, int i, int n, int what) {
        if (!isSheet(sheet) || !isLane(lane) || n < 0 || n > CLERKS || !isEither(what)) {
            return BAD;
        }
        int refusal = sheets[sheet].refusal(lane, i, n);
        if (refusal != 0) {
            return refusal;
        }
        int told = clerksTold(sheets[sheet], i, n);
        if (told < 0) {
            return NOT;
        }
        return what == 0 ? waysTo(told) : firstWayTo(told);
    }

    public int film(int n, int sheet, int lane, int i) {
        if (n < 1 || n > now.size || !isSheet(sheet) || !isLane(lane)) {
            return BAD;
        }
        int refusal = sheets[sheet].refusal(lane, i, n);
        if (refusal != 0) {
            return refusal;
        }
        for (int c = 0; c < n; c++) {
            sheets[sheet].put(i + c, now.ash[c]);
        }
        return n;
    }

    public int sheet(int sheet, int lane, int n) {
        if (!isSheet(sheet) || !isLane(lane) || n > ITEMS) {
            return BAD;
        }
        if (n < 0) {
            return SIZE;
        }
        sheets[sheet].renew(lane, n);
        return n;
    }

    public int drop(int sheet) {
        if (!isSheet(sheet)) {
            return BAD;
        }
        if (!sheets[sheet].there) {
            return NULL;
        }
        sheets[sheet].there = false;
        return sheets[sheet].size;
    }

    public int item(int sheet, int lane, int i, long v) {
        if (!isSheet(sheet) || !isLane(lane)) {
            return BAD;
        }
        int refusal = sheets[sheet].refusal(lane, i, 1);
        if (refusal != 0) {
            return refusal;
        }
        sheets[sheet].put(i, v);
        return 1;
    }

    public int copy(int from, int i, int to, int j, int n) {
        if (!isSheet(from) || !isSheet(to)) {
            return BAD;
        }
        if (!sheets[from].there || !sheets[to].there) {
            return NULL;
        }
        if (sheets[from].lane != sheets[to].lane) {
            return CAST;
        }
        if (sheets[from].isOutside(i, n) || sheets[to].isOutside(j, n)) {
            return INDEX;
        }
        System.arraycopy(sheets[from].row, i, sheets[to].row, j, n);
        return n;
    }

    // ---- what is as told

    private static boolean isDesk(int desk) {
        return desk >= 0 && desk < DESKS;
    }

    private boolean isClerk(int clerk) {
        return clerk >= 0 && clerk < now.size;
    }

    private static boolean isForce(int g) {
        return g >= 0 && g <= MOST_FORCE;
    }

    private static boolean isAhead(int n) {
        return n >= 0 && n <= FAR_AHEAD;
    }

    private static boolean isEither(int what) {
        return what == 0 || what == 1;
    }

    private static boolean isSheet(int sheet) {
        return sheet >= 0 && sheet < SHEETS;
    }

    private static boolean isLane(int lane) {
        return lane >= 0 && lane < LANES;
    }

    private int refusalOfMinutes(int n) {
        if (n < 1 || n > MOST_MINUTES) {
            return BAD;
        }
        return now.minute + n > LAST_MINUTE ? FULL : 0;
    }

    // ---- how it is foretold

    private void growTrial(int n) {
        trial.take(now);
        for (int t = 0; t < n; t++) {
            trial.grow();
        }
    }

    private int fallenIf(int desk, int g) {
        trial.take(now);
        return trial.jolt(desk, g);
    }

    private int lostInTrial() {
        return now.worth() - trial.worth();
    }

    /** The least pay lost by a shake over all orders of seats; seating.best is the first such order. */
    private int leastLoss(int desk, int g) {
        int least = 0;
        boolean more = true;
        seating.begin(now.size);
        for (int tries = 0; tries < ORDERS && more; tries++) {
            joltSeated(desk, g);
            int lost = lostInTrial();
            if (tries == 0 || lost < least) {
                least = lost;
                seating.keep();
            }
            more = seating.advance();
        }
        return least;
    }

    private void joltSeated(int desk, int g) {
        trial.take(now);
        for (int c = 0; c < now.size; c++) {
            trial.seat[c] = now.seat[seating.order[c]];
        }
        trial.jolt(desk, g);
    }

    private boolean fallsByLaughs(int clerk, int laughing) {
        trial.take(now);
        int fallen = 0;
        for (int c = 0; c < now.size; c++) {
            if (((laughing >> c) & 1) != 0) {
                fallen |= trial.jolt(now.seat[c], LAUGH);
            }
        }
        return ((fallen >> clerk) & 1) != 0;
    }

    /** In how many of 10 to the power of the other clerks' number just these of them laugh. */
    private int waysToLaugh(int clerk, int laughing, int c) {
        int ways = 1;
        for (int other = 0; other < now.size; other++) {
            if (other != clerk) {
                ways *= ((laughing >> other) & 1) != 0 ? c : LAUGH_ODDS - c;
            }
        }
        return ways;
    }

    private static int commonDivisor(int a, int b) {
        int high = b;
        int low = a;
        // numbers of 31 bits need fewer than 64 steps
        for (int step = 0; step < 64 && low != 0; step++) {
            int rest = high % low;
            high = low;
            low = rest;
        }
        return high;
    }

    // ---- whence

    /** The set of clerks that n items tell, or below 0 if one is no clerk or is told twice. */
    private int clerksTold(Sheet from, int i, int n) {
        int told = 0;
        for (int k = 0; k < n; k++) {
            long item = from.row[i + k];
            if (item < 0 || item >= now.size || ((told >> (int) item) & 1) != 0) {
                return NOT;
            }
            told |= 1 << (int) item;
        }
        return told;
    }

    private int waysTo(int told) {
        int ways = 0;
        for (int d = 0; d < DESKS; d++) {
            for (int g = 1; g <= WHENCE_FORCE; g++) {
                if (fallenIf(d, g) == told) {
                    ways++;
                }
            }
        }
        return ways;
    }

    private int firstWayTo(int told) {
        for (int d = 0; d < DESKS; d++) {
            for (int g = 1; g <= WHENCE_FORCE; g++) {
                if (fallenIf(d, g) == told) {
                    return 100 * d + g;
                }
            }
        }
        return NONE;
    }

    /** The clerks at their desks at one minute, and the rules that they are paid and shaken by. */
    private static final class Room {
        final int[] kind = new int[CLERKS];
        final int[] seat = new int[CLERKS];
        final int[] steady = new int[CLERKS];
        final int[] ash = new int[CLERKS];
        int size;
        int smoking;
        int rate = 1;
        int sigh = 2;
        int minute;
        int draw = 1;

        // whose sighs are due in the shake that is under way
        private final int[] sighing = new int[CLERKS];
        private int sighs;

        void take(Room other) {
            System.arraycopy(other.kind, 0, kind, 0, CLERKS);
            System.arraycopy(other.seat, 0, seat, 0, CLERKS);
            System.arraycopy(other.steady, 0, steady, 0, CLERKS);
            System.arraycopy(other.ash, 0, ash, 0, CLERKS);
            size = other.size;
            smoking = other.smoking;
            rate = other.rate;
            sigh = other.sigh;
            minute = other.minute;
            draw = other.draw;
        }

        void empty() {
            size = 0;
            smoking = 0;
            minute = 0;
        }

        void seatNew(int newKind, int newSeat, int newSteady) {
            if (size < CLERKS) {
                kind[size] = newKind;
                seat[size] = newSeat;
                steady[size] = newSteady;
                ash[size] = 0;
                smoking |= 1 << size;
                size++;
            }
        }

        boolean isSmoking(int c) {
            return ((smoking >> c) & 1) != 0;
        }

        int holds(int c) {
            if (!isSmoking(c)) {
                return HOLDS_ALL;
            }
            int plain = Math.max(0, 3 * steady[c] - ash[c] / 10);
            switch (kind[c]) {
                case NERVOUS:
                    return Math.max(0, plain - 3);
                case COLD:
                    return minute % 10 == 0 ? 0 : Math.max(0, plain - 3);
                case STILL:
                case OLD:
                    return plain + 5;
                default:
                    return plain;
            }
        }

        /** A minute passes; what it makes of ash goes by the number of the minute that ends. */
        void grow() {
            for (int c = 0; c < size; c++) {
                boolean idle = kind[c] == OLD && minute % 2 != 0;
                if (isSmoking(c) && !idle && ash[c] < MOST_ASH) {
                    ash[c]++;
                }
            }
            minute++;
        }

        /** A shake with all sighs that follow from it: whose ash fell, as a set. */
        int jolt(int place, int force) {
            sighs = 0;
            int fallen = strike(place, force);
            // sighs grows while they are heard, but each clerk's ash falls once at most
            for (int next = 0; next < CLERKS && next < sighs; next++) {
                fallen |= strike(seat[sighing[next]], sigh);
            }
            return fallen;
        }

        private int strike(int place, int force) {
            int fallen = 0;
            for (int c = 0; c < size; c++) {
                int felt = Math.max(0, force - 2 * Math.abs(seat[c] - place));
                if (ash[c] > 0 && felt > holds(c)) {
                    fallen |= 1 << c;
                    if (ash[c] >= SIGHING_ASH && sighs < CLERKS) {
                        sighing[sighs] = c;
                        sighs++;
                    }
                    ash[c] = 0;
                }
            }
            return fallen;
        }

        void joltByDraw() {
            draw = (draw * 1103515245 + 12345) & 0x7fffffff;
            if (draw / 65536 % 5 == 0) {
                jolt(draw / 128 % DESKS, draw / 1024 % 20);
            }
        }

        int worth() {
            int all = 0;
            for (int c = 0; c < size; c++) {
                all += ash[c];
            }
            return rate * all;
        }

        int withAsh() {
            int set = 0;
            for (int c = 0; c < size; c++) {
                if (ash[c] > 0) {
                    set |= 1 << c;
                }
            }
            return set;
        }
    }

    /** What may be undone: a ring of the latest moments, each as it was ahead of what was done. */
    private static final class Past {
        private final int[] ash = new int[KNOWN * CLERKS];
        private final int[] smoking = new int[KNOWN];
        private final int[] minute = new int[KNOWN];
        private final int[] draw = new int[KNOWN];
        // where the next moment goes, always 0 .. KNOWN - 1
        private int top;
        int known;

        void forget() {
            known = 0;
        }

        void note(Room room) {
            System.arraycopy(room.ash, 0, ash, top * CLERKS, CLERKS);
            smoking[top] = room.smoking;
            minute[top] = room.minute;
            draw[top] = room.draw;
            top = top + 1 < KNOWN ? top + 1 : 0;
            known = Math.min(known + 1, KNOWN);
        }

        void giveBack(Room room) {
            if (known > 0) {
                known--;
                top = top > 0 ? top - 1 : KNOWN - 1;
                System.arraycopy(ash, top * CLERKS, room.ash, 0, CLERKS);
                room.smoking = smoking[top];
                room.minute = minute[top];
                room.draw = draw[top];
            }
        }

        void take(Past other) {
            System.arraycopy(other.ash, 0, ash, 0, KNOWN * CLERKS);
            System.arraycopy(other.smoking, 0, smoking, 0, KNOWN);
            System.arraycopy(other.minute, 0, minute, 0, KNOWN);
            System.arraycopy(other.draw, 0, draw, 0, KNOWN);
            top = other.top;
            known = other.known;
        }
    }

    /** The orders in which clerks may have one another's desks, from the first one on. */
    private static final class Seating {
        final int[] order = new int[CLERKS];
        final int[] best = new int[CLERKS];
        private int size;

        void begin(int clerks) {
            size = Math.min(clerks, CLERKS);
            for (int c = 0; c < size; c++) {
                order[c] = c;
            }
        }

        void keep() {
            System.arraycopy(order, 0, best, 0, CLERKS);
        }

        /** Makes the next order of this one, if there is one. */
        boolean advance() {
            int turn = size - 2;
            while (turn >= 0 && order[turn] > order[turn + 1]) {
                turn--;
            }
            if (turn < 0) {
                return false;
            }
            int with = size - 1;
            while (with > turn && order[with] < order[turn]) {
                with--;
            }
            swap(turn, with);
            int low = turn + 1;
            for (int high = size - 1; high > low; high--) {
                swap(low, high);
                low++;
            }
            return true;
        }

        private void swap(int a, int b) {
            int was = order[a];
            order[a] = order[b];
            order[b] = was;
        }
    }

    /** The letters that were typed, and how they are read as an office. */
    private static final class Tape {
        private final int[] letters = new int[LETTERS];
        private int length;
        // where it is read; it stays at the first fault
        private int at;
        private boolean wrong;

        int put(int letter) {
            if (length >= LETTERS) {
                return FULL;
            }
            letters[length] = letter;
            length++;
            return length;
        }

        void clear() {
            length = 0;
        }

        /** Reads all letters into a room: how many clerks, or a fault. */
        int read(Room room) {
            at = 0;
            wrong = false;
            room.empty();
            room.rate = digit(1);
            room.sigh = digit(0);
            want(';');
            readClerk(room);
            for (int c = 1; c < CLERKS && found(','); c++) {
                readClerk(room);
            }
            want(NO_LETTER);
            return wrong ? FAULT - at : room.size;
        }

        private void readClerk(Room room) {
            int kind = kindLetter();
            int seat = digit(0);
            int steady = digit(1);
            int ash = found('/') ? number() : 0;
            boolean laid = found('x');
            if (!wrong && room.size < CLERKS) {
                int c = room.size;
                room.seatNew(kind, seat, steady);
                room.ash[c] = ash;
                if (laid) {
                    room.smoking &= ~(1 << c);
                }
            }
        }

        private int kindLetter() {
            if (wrong) {
                return PLAIN;
            }
            int kind = kindOf(nextLetter());
            if (kind < 0) {
                wrong = true;
                return PLAIN;
            }
            at++;
            return kind;
        }

        private static int kindOf(int letter) {
            switch (letter) {
                case 'p':
                    return PLAIN;
                case 'n':
                    return NERVOUS;
                case 's':
                    return STILL;
                case 'c':
                    return COLD;
                case 'o':
                    return OLD;
                default:
                    return NONE;
            }
        }

        /** The letter behind blanks, which stays to be read, or NO_LETTER at the end. */
        private int nextLetter() {
            while (at < length && at < LETTERS && letters[at] == ' ') {
                at++;
            }
            return letterHere();
        }

        private int letterHere() {
            return at < length && at < LETTERS ? letters[at] : NO_LETTER;
        }

        private boolean found(int letter) {
            if (wrong || nextLetter() != letter) {
                return false;
            }
            at++;
            return true;
        }

        private void want(int letter) {
            if (!wrong && nextLetter() != letter) {
                wrong = true;
            } else if (!wrong && letter != NO_LETTER) {
                at++;
            }
        }

        private int digit(int least) {
            if (wrong) {
                return least;
            }
            int value = nextLetter() - '0';
            if (value < least || value > 9) {
                wrong = true;
                return least;
            }
            at++;
            return value;
        }

        /** A number of one or two digits; no blank is passed over between these, as it ends the number. */
        private int number() {
            int value = digit(0);
            int second = letterHere() - '0';
            if (!wrong && second >= 0 && second <= 9) {
                at++;
                value = 10 * value + second;
            }
            return value;
        }
    }

    /** A row of a lane, or nothing; the items are kept as longs, cut to the lane's width. */
    private static final class Sheet {
        final long[] row = new long[ITEMS];
        boolean there;
        int lane;
        int size;

        void renew(int newLane, int newSize) {
            there = true;
            lane = newLane;
            size = Math.min(newSize, ITEMS);
            for (int i = 0; i < ITEMS; i++) {
                row[i] = 0;
            }
        }

        /** Why n items from i on can't be taken as of a lane, or 0 if they can. */
        int refusal(int asLane, int i, int n) {
            if (!there) {
                return NULL;
            }
            if (asLane != lane) {
                return CAST;
            }
            return isOutside(i, n) ? INDEX : 0;
        }

        boolean isOutside(int i, int n) {
            return i < 0 || n < 0 || i > size - n;
        }

        void put(int i, long v) {
            if (!isOutside(i, 1)) {
                row[i] = cut(v);
            }
        }

        private long cut(long v) {
            switch (lane) {
                case 0:
                    return (byte) v;
                case 1:
                    return (short) v;
                case 2:
                    return (int) v;
                default:
                    return v;
            }
        }
    }
}
