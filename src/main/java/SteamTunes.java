import java.util.Arrays;

/**
 * Tunes by steam: a boiler, whistles that drop as steam falls, tunes told in a text, two boats along a river.
 * What each call promises stands in the project's document; the README tells how to use the class.
 */
public final class SteamTunes {
    public static final int BAD = -1, STATE = -2, FULL = -3, NONE = -4, DRY = -5;

    // Calls that may answer small numbers below 0 refuse with numbers further away.
    private static final int FAR_BAD = -10000, FAR_STATE = -10002;
    private static final int KEY_BAD = -100, KEY_NONE = -104;
    private static final int BLAME_BAD = -1000, BLAME_STATE = -1002, BLAME_NONE = -1004, BLAME_FAULT = -1010;
    private static final int TEXT_FAULT = -10, SHEET_FAULT = -10, SCAN_REFUSED = -20, DRY_AT = -100;

    private static final int MOST_STEAM = 200, MOST_WATER = 9999, MOST_FIRE = 9, LEAST_VALVE = 50;
    private static final int MOST_WHISTLES = 12, MOST_STEM = 100, MOST_CRACK = 200, MOST_BOUND = 400;
    private static final int MOST_TUNES = 6, MOST_BEATS = 24, MOST_KEY = 11, MOST_RESTS = 8;
    private static final int MOST_PLACE = 999, MOST_LAG = 99, MOST_SPEED = 99, MOST_HEARD = 99;

    private final Boiler boiler = new Boiler();
    private final Boiler trial = new Boiler();
    private final Whistles whistles = new Whistles();
    private final Acts acts = new Acts();
    private final Reader reader = new Reader();
    private final Tunes tunes = new Tunes();
    private final Setting setting = new Setting();
    private final Suspects suspects = new Suspects();
    private final River river = new River();
    private final Sheets sheets = new Sheets();

    public SteamTunes() {
    }

    // ---- the boiler

    public int fire(int v) {
        if (!isWithin(v, 0, MOST_FIRE)) {
            return BAD;
        }
        acts.keep(boiler, whistles);
        int was = boiler.fire;
        boiler.fire = v;
        return was;
    }

    public int water(int v) {
        if (!isWithin(v, 1, MOST_WATER)) {
            return BAD;
        }
        acts.keep(boiler, whistles);
        boiler.water = Math.min(MOST_WATER, boiler.water + v);
        return boiler.water;
    }

    public int valve(int v) {
        if (!isWithin(v, LEAST_VALVE, MOST_STEAM)) {
            return BAD;
        }
        acts.keep(boiler, whistles);
        int was = boiler.valve;
        boiler.valve = v;
        boiler.pressure = Math.min(boiler.pressure, v);
        return was;
    }

    public int pressure(int v) {
        if (!isWithin(v, 0, boiler.valve)) {
            return BAD;
        }
        acts.keep(boiler, whistles);
        int was = boiler.pressure;
        boiler.pressure = v;
        return was;
    }

    public int boiler(int what) {
        switch (what) {
            case 0:
                return boiler.pressure;
            case 1:
                return boiler.water;
            case 2:
                return boiler.fire;
            case 3:
                return boiler.valve;
            case 4:
                return boiler.blows;
            case 5:
                return whistles.drawnBy(0, whistles.leaks);
            default:
                return BAD;
        }
    }

    public int beat(int chord) {
        if (!whistles.hasAll(chord)) {
            return BAD;
        }
        int drawn = whistles.drawnBy(chord, whistles.leaks);
        if (drawn > boiler.water) {
            return DRY;
        }
        acts.keep(boiler, whistles);
        int stray = whistles.strayOf(chord, boiler.pressure);
        boiler.pass(drawn);
        return stray;
    }

    // ---- whistles

    public int whistle(int note, int draw, int slope, boolean stuck) {
        return whistles.add(note, draw, slope, stuck);
    }

    public int told(int w, int what) {
        if (!whistles.has(w)) {
            return FAR_BAD;
        }
        switch (what) {
            case 0:
                return whistles.note[w];
            case 1:
                return whistles.draw[w];
            case 2:
                return whistles.slope[w];
            case 3:
                return whistles.stuck[w] ? 1 : 0;
            case 4:
                return whistles.stem[w];
            case 5:
                return whistles.crack[w];
            case 6:
                return whistles.leaks >> w & 1;
            default:
                return FAR_BAD;
        }
    }

    public int stem(int w, int v) {
        if (!whistles.has(w) || !isWithin(v, -MOST_STEM, MOST_STEM)) {
            return FAR_BAD;
        }
        if (whistles.stuck[w]) {
            return FAR_STATE;
        }
        acts.keep(boiler, whistles);
        int was = whistles.stem[w];
        whistles.stem[w] = v;
        return was;
    }

    public int crack(int w, int v) {
        if (!whistles.has(w) || !isWithin(v, -MOST_CRACK, MOST_CRACK)) {
            return FAR_BAD;
        }
        acts.keep(boiler, whistles);
        int was = whistles.crack[w];
        whistles.crack[w] = v;
        return was;
    }

    public int leak(int w, boolean is) {
        if (!whistles.has(w)) {
            return BAD;
        }
        acts.keep(boiler, whistles);
        int was = whistles.leaks >> w & 1;
        whistles.leaks = is ? whistles.leaks | 1 << w : whistles.leaks & ~(1 << w);
        return was;
    }

    public int pitch(int w, int p) {
        if (!whistles.has(w) || !isWithin(p, 0, MOST_STEAM)) {
            return FAR_BAD;
        }
        return whistles.note[w] + whistles.offAt(w, p);
    }

    public int holds(int w, int bound) {
        if (!whistles.has(w) || !isWithin(bound, 0, MOST_BOUND)) {
            return BAD;
        }
        int least = NONE;
        for (int p = boiler.valve; p >= 0 && whistles.isNear(w, p, bound); p--) {
            least = p;
        }
        return least;
    }

    public int tuneAll(int p) {
        if (!isWithin(p, 0, MOST_STEAM)) {
            return BAD;
        }
        acts.keep(boiler, whistles);
        whistles.bringNear(p);
        return whistles.number - whistles.exactAt(p);
    }

    public int agree(int what) {
        if (!isWithin(what, 0, 2)) {
            return BAD;
        }
        if (whistles.number == 0) {
            return NONE;
        }
        int best = boiler.valve;
        int least = whistles.strayOf(whistles.all(), best);
        for (int p = boiler.valve - 1; p >= 0; p--) {
            int stray = whistles.strayOf(whistles.all(), p);
            if (stray < least) {
                least = stray;
                best = p;
            }
        }
        if (what == 0) {
            return best;
        }
        return what == 1 ? least : whistles.exactAt(best);
    }

    // ---- tunes

    public int feed(long v) {
        return reader.append(v) ? reader.length : FULL;
    }

    public int end(int n) {
        if (!isWithin(n, 0, reader.length)) {
            return BAD;
        }
        int had = reader.length;
        reader.length = n;
        return had;
    }

    public int tune() {
        if (tunes.number >= MOST_TUNES) {
            return FULL;
        }
        reader.readAll();
        reader.length = 0;
        if (reader.fault != 0) {
            return TEXT_FAULT - reader.faultPlace;
        }
        return tunes.add(reader.row, reader.beats);
    }

    public int fault() {
        return reader.fault;
    }

    public int tuneOf(int t, int what) {
        if (!tunes.has(t)) {
            return BAD;
        }
        switch (what) {
            case 0:
                return tunes.beats[t];
            case 1:
                return tunes.sounding(t);
            case 2:
                return leastOf(tunes.whistlesOf(t));
            case 3:
                return greatestOf(tunes.whistlesOf(t));
            default:
                return isBeat(t, what, 10) ? tunes.rows[t][what - 10] : BAD;
        }
    }

    public int play(int t, int key) {
        int answer = tryOut(t, key);
        boolean went = answer >= 0 || answer < DRY_AT;
        if (went) {
            acts.keep(boiler, whistles);
            boiler.copyFrom(trial);
        }
        return answer;
    }

    public int would(int t, int key) {
        return tryOut(t, key);
    }

    public int key(int t, int what) {
        if (!tunes.has(t) || !isWithin(what, 0, 2)) {
            return KEY_BAD;
        }
        int goes = 0;
        int best = KEY_NONE;
        int least = KEY_NONE;
        for (int k = -MOST_KEY; k <= MOST_KEY; k++) {
            int stray = tryOut(t, k);
            goes += stray == STATE ? 0 : 1;
            boolean first = best == KEY_NONE;
            boolean nearer = stray == least && Math.abs(k) < Math.abs(best);
            if (stray >= 0 && (first || stray < least || nearer)) {
                best = k;
                least = stray;
            }
        }
        if (what == 2) {
            return goes;
        }
        return what == 0 ? best : least;
    }

    public int set(int t, int key, int bound, int rests, int what) {
        boolean isTold = isWithin(what, 0, 2) || isBeat(t, what, 10) || isBeat(t, what, 40);
        if (!tunes.has(t) || !isKey(key) || !isTold) {
            return BAD;
        }
        if (!isWithin(bound, 0, MOST_BOUND) || !isWithin(rests, 0, MOST_RESTS)) {
            return BAD;
        }
        if (!tunes.goes(t, key, whistles.number)) {
            return STATE;
        }
        if (!setting.isFor(t, key, bound, rests, acts.changes)) {
            setting.takeTune(tunes, t, key);
            setting.solve(boiler, whistles, bound, rests);
            setting.remember(t, key, bound, rests, acts.changes);
        }
        return setting.answer(what);
    }

    // ---- heard

    public int blame(int t, int key, int p, int k, int lane, int f, int what) {
        boolean isTold = isWithin(what, 0, 2) || what >= 20 && whistles.has(what - 20);
        if (!tunes.has(t) || !isKey(key) || !isWithin(p, 0, boiler.valve) || !isTold) {
            return BLAME_BAD;
        }
        if (!sheets.has(k) || !sheets.isLane(lane)) {
            return BLAME_BAD;
        }
        if (!tunes.goes(t, key, whistles.number)) {
            return BLAME_STATE;
        }
        int fault = sheets.faultAs(k, lane);
        if (fault == 0) {
            fault = takeHeard(t, key, k, f);
        }
        if (fault != 0) {
            return BLAME_FAULT - fault;
        }
        return suspects.find(boiler, whistles, p) ? suspects.answer(what) : BLAME_NONE;
    }

    // ---- boats

    public int boat(int place, int lag) {
        if (!isPlace(place) || !isWithin(lag, 0, MOST_LAG)) {
            return BAD;
        }
        return river.addBoat(place, lag);
    }

    public int bend(int place, int length) {
        if (!isPlace(place) || !isWithin(length, 1, 99) || river.bendsAt(place)) {
            return BAD;
        }
        return river.addBend(place, length);
    }

    public int speed(int v) {
        if (!isWithin(v, 1, MOST_SPEED)) {
            return BAD;
        }
        int was = river.speed;
        river.speed = v;
        return was;
    }

    public int far(int x, int y) {
        return isPlace(x) && isPlace(y) ? river.way(x, y) : BAD;
    }

    public int heard(int boat, int i, int place) {
        if (!river.hasBoat(boat) || !isWithin(i, 0, MOST_HEARD) || !isPlace(place)) {
            return BAD;
        }
        return i + river.firstHeard(boat, place);
    }

    public int step(int a, int b, int what) {
        if (!river.hasBoat(a) || !river.hasBoat(b) || a == b || !isWithin(what, 0, 3)) {
            return BAD;
        }
        river.walk(a, b);
        switch (what) {
            case 0:
                return river.inStep;
            case 1:
                return river.firstPlace;
            case 2:
                return river.lastPlace;
            default:
                return river.longest;
        }
    }

    // ---- acts, sheets

    public int undo() {
        return acts.restore(boiler, whistles) ? acts.held : NONE;
    }

    public int sheet(int k, int lane, int n) {
        if (!sheets.has(k) || !sheets.isLane(lane) || n > Sheets.MOST_CELLS) {
            return BAD;
        }
        if (n < 0) {
            return SHEET_FAULT - Sheets.SIZE;
        }
        sheets.renew(k, lane, n);
        return 1;
    }

    public int lay(int k, int i, int v) {
        if (!sheets.has(k)) {
            return BAD;
        }
        if (sheets.isNothing(k)) {
            return SHEET_FAULT - Sheets.NULL;
        }
        if (!sheets.hasCell(k, i)) {
            return SHEET_FAULT - Sheets.INDEX;
        }
        sheets.put(k, i, v);
        return 1;
    }

    public int scan(int k, int lane, int f, int n) {
        if (!sheets.has(k) || !sheets.isLane(lane) || !isWithin(n, 0, MOST_WHISTLES)) {
            return BAD;
        }
        int fault = sheets.faultAs(k, lane);
        if (fault != 0) {
            return SHEET_FAULT - fault;
        }
        int before = whistles.number;
        int answer = before;
        for (int j = 0; j < n && answer >= 0; j++) {
            answer = scanOne(k, f + 4 * j);
        }
        if (answer < 0) {
            whistles.number = before;
        }
        return answer;
    }

    public int count(int what) {
        switch (what) {
            case 0:
                return whistles.number;
            case 1:
                return tunes.number;
            case 2:
                return river.boats;
            case 3:
                return river.bends;
            case 4:
                return Integer.bitCount(whistles.leaks);
            case 5:
                return whistles.cracked();
            case 6:
                return acts.held;
            case 7:
                return reader.length;
            case 8:
                return sheets.isNothing(0) ? NONE : sheets.size[0];
            default:
                return BAD;
        }
    }

    // ---- what several calls share

    /** Plays on the trial boiler, so that the caller decides whether it was meant. */
    private int tryOut(int t, int key) {
        if (!tunes.has(t) || !isKey(key)) {
            return BAD;
        }
        if (!tunes.goes(t, key, whistles.number)) {
            return STATE;
        }
        trial.copyFrom(boiler);
        int stray = 0;
        for (int i = 0; i < tunes.beats[t]; i++) {
            int chord = tunes.chordIn(t, i, key);
            int drawn = whistles.drawnBy(chord, whistles.leaks);
            if (drawn > trial.water) {
                return DRY_AT - i;
            }
            stray = Math.max(stray, whistles.strayOf(chord, trial.pressure));
            trial.pass(drawn);
        }
        return stray;
    }

    /** Hands the chords and what was heard of them to the suspects: 0, or the fault that the machine finds. */
    private int takeHeard(int t, int key, int k, int f) {
        suspects.forget();
        for (int i = 0; i < tunes.beats[t]; i++) {
            int chord = tunes.chordIn(t, i, key);
            int cell = Suspects.GAP;
            if (chord != 0) {
                if (!sheets.hasCell(k, f + i)) {
                    return Sheets.INDEX;
                }
                cell = sheets.cells[k][f + i];
            }
            suspects.addBeat(chord, cell);
        }
        return 0;
    }

    /** A whistle from four cells: how many there are then, or what scan() answers. */
    private int scanOne(int k, int from) {
        for (int i = 0; i < 4; i++) {
            if (!sheets.hasCell(k, from + i)) {
                return SHEET_FAULT - Sheets.INDEX;
            }
        }
        int[] row = sheets.cells[k];
        int w = whistles.add(row[from], row[from + 1], row[from + 2], row[from + 3] != 0);
        return w < 0 ? SCAN_REFUSED + w : whistles.number;
    }

    private boolean isBeat(int t, int what, int from) {
        return tunes.has(t) && what >= from && what - from < tunes.beats[t];
    }

    private static boolean isKey(int key) {
        return isWithin(key, -MOST_KEY, MOST_KEY);
    }

    private static boolean isPlace(int place) {
        return isWithin(place, 0, MOST_PLACE);
    }

    private static boolean isWithin(int v, int least, int most) {
        return least <= v && v <= most;
    }

    private static int leastOf(int chord) {
        return chord == 0 ? NONE : Integer.bitCount((chord & -chord) - 1);
    }

    private static int greatestOf(int chord) {
        for (int w = MOST_WHISTLES - 1; w >= 0; w--) {
            if ((chord >> w & 1) != 0) {
                return w;
            }
        }
        return NONE;
    }

    /** The state of the boiler; a second one serves for trials. */
    private static final class Boiler {
        int pressure = 100;
        int water = 1000;
        int fire = 3;
        int valve = 150;
        int blows = 0;

        void copyFrom(Boiler other) {
            pressure = other.pressure;
            water = other.water;
            fire = other.fire;
            valve = other.valve;
            blows = other.blows;
        }

        /** A beat; the caller has seen that there is water for it. */
        void pass(int drawn) {
            water -= drawn;
            int heat = water > 0 ? 2 * fire : 0;
            pressure = Math.max(0, pressure + heat - drawn);
            if (pressure > valve) {
                water = Math.max(0, water - (pressure - valve));
                pressure = valve;
                blows++;
            }
        }

        /** The pressure behind a beat as if there were water enough. */
        int after(int p, int drawn) {
            return Math.min(valve, Math.max(0, p + 2 * fire - drawn));
        }
    }

    /** The whistles, a row for each of what is told of them; keys that leak are bits. */
    private static final class Whistles {
        final int[] note = new int[MOST_WHISTLES];
        final int[] draw = new int[MOST_WHISTLES];
        final int[] slope = new int[MOST_WHISTLES];
        final boolean[] stuck = new boolean[MOST_WHISTLES];
        final int[] stem = new int[MOST_WHISTLES];
        final int[] crack = new int[MOST_WHISTLES];
        int leaks = 0;
        int number = 0;

        /** The new one's number, or why it is refused. Stem, crack and leak of a place not taken yet are 0. */
        int add(int newNote, int newDraw, int newSlope, boolean isStuck) {
            if (!isWithin(newNote, 0, 3600) || !isWithin(newDraw, 1, 9) || !isWithin(newSlope, 0, 20)) {
                return BAD;
            }
            if (number >= MOST_WHISTLES) {
                return FULL;
            }
            note[number] = newNote;
            draw[number] = newDraw;
            slope[number] = newSlope;
            stuck[number] = isStuck;
            number++;
            return number - 1;
        }

        boolean has(int w) {
            return 0 <= w && w < number;
        }

        int all() {
            return (1 << number) - 1;
        }

        boolean hasAll(int chord) {
            return (chord & ~all()) == 0;
        }

        /** How far steam alone bends a whistle. */
        int bentAt(int w, int p) {
            return Math.floorDiv(slope[w] * (p - 100), 10);
        }

        int offAt(int w, int p) {
            return stem[w] + crack[w] + bentAt(w, p);
        }

        boolean isNear(int w, int p, int bound) {
            return Math.abs(offAt(w, p)) <= bound;
        }

        int strayOf(int chord, int p) {
            int stray = 0;
            for (int w = 0; w < number; w++) {
                if ((chord >> w & 1) != 0) {
                    stray = Math.max(stray, Math.abs(offAt(w, p)));
                }
            }
            return stray;
        }

        /** What a beat draws if the keys told leak, which need not be those that do. */
        int drawnBy(int chord, int leaking) {
            int drawn = 0;
            for (int w = 0; w < number; w++) {
                if ((chord >> w & 1) != 0) {
                    drawn += draw[w];
                } else if ((leaking >> w & 1) != 0) {
                    drawn += draw[w] / 2;
                }
            }
            return drawn;
        }

        void bringNear(int p) {
            for (int w = 0; w < number; w++) {
                if (!stuck[w]) {
                    int wanted = -(crack[w] + bentAt(w, p));
                    stem[w] = Math.max(-MOST_STEM, Math.min(MOST_STEM, wanted));
                }
            }
        }

        int exactAt(int p) {
            int exact = 0;
            for (int w = 0; w < number; w++) {
                exact += offAt(w, p) == 0 ? 1 : 0;
            }
            return exact;
        }

        int cracked() {
            int cracked = 0;
            for (int w = 0; w < number; w++) {
                cracked += crack[w] != 0 ? 1 : 0;
            }
            return cracked;
        }
    }

    /** What was ahead of the latest acts, in a ring of rows that are used again. */
    private static final class Acts {
        private static final int MOST = 10;
        private static final int STEMS = 6, CRACKS = STEMS + MOST_WHISTLES, CELLS = CRACKS + MOST_WHISTLES;

        private final int[][] rows = new int[MOST][CELLS];
        private int next = 0;
        int held = 0;
        // Tells the setting whether what it found still holds.
        int changes = 0;

        void keep(Boiler b, Whistles w) {
            int[] row = rows[next];
            row[0] = b.pressure;
            row[1] = b.water;
            row[2] = b.fire;
            row[3] = b.valve;
            row[4] = b.blows;
            row[5] = w.leaks;
            System.arraycopy(w.stem, 0, row, STEMS, MOST_WHISTLES);
            System.arraycopy(w.crack, 0, row, CRACKS, MOST_WHISTLES);
            next = (next + 1) % MOST;
            held = Math.min(MOST, held + 1);
            changes++;
        }

        boolean restore(Boiler b, Whistles w) {
            if (held == 0) {
                return false;
            }
            next = (next + MOST - 1) % MOST;
            held--;
            changes++;
            int[] row = rows[next];
            b.pressure = row[0];
            b.water = row[1];
            b.fire = row[2];
            b.valve = row[3];
            b.blows = row[4];
            w.leaks = row[5];
            System.arraycopy(row, STEMS, w.stem, 0, MOST_WHISTLES);
            System.arraycopy(row, CRACKS, w.crack, 0, MOST_WHISTLES);
            return true;
        }
    }

    /** The tape, and the reading of its text token by token into a row of chords. */
    private static final class Reader {
        private static final int MOST_BYTES = 160, MOST_OPEN = 4, MOST_LETTERS = 5, MOST_FIGURES = 2, MOST_ROUNDS = 20;
        private static final int NOWHERE = -1;
        private static final int NO_TOKEN = 1, CAN_NOT_STAND = 2, NUMBER_BOUNDS = 3;
        private static final int LETTERS = 4, TOO_DEEP = 5, TOO_LONG = 6;
        // Kinds of tokens.
        private static final int END = 0, CHORD = 1, NUMBER = 2, REST = 3, OPEN = 4, CLOSE = 5;
        // What may stand next: an item; an item, a close or the end; an open; nothing, for the text has ended.
        private static final int ITEM = 0, MORE = 1, OPENING = 2, NOTHING = 3;

        private final byte[] tape = new byte[MOST_BYTES];
        int length = 0;
        private int at = 0;
        private int kind = END;
        private int place = 0;
        private int value = 0;
        private int spoiledAt = NOWHERE;
        int fault = 0;
        int faultPlace = 0;
        final int[] row = new int[MOST_BEATS];
        // Stays at MOST_BEATS + 1 once there are more: how many more does not matter.
        int beats = 0;
        private final int[] begins = new int[MOST_OPEN];
        private final int[] rounds = new int[MOST_OPEN];
        private int depth = 0;

        boolean append(long v) {
            if (length + 8 > MOST_BYTES) {
                return false;
            }
            for (int i = 0; i < 8; i++) {
                tape[length + i] = (byte) (v >> 56 - 8 * i);
            }
            length += 8;
            return true;
        }

        void readAll() {
            at = 0;
            fault = 0;
            faultPlace = 0;
            beats = 0;
            depth = 0;
            int want = ITEM;
            // Each token takes a byte at least, and the end is one more.
            for (int n = 0; n <= length && want != NOTHING && fault == 0; n++) {
                readToken();
                if (fault == 0) {
                    want = take(want);
                }
            }
        }

        private void readToken() {
            while (at < length && tape[at] == ' ') {
                at++;
            }
            place = at;
            if (at >= length) {
                kind = END;
            } else if (isLetter(at)) {
                readChord();
            } else if (isFigure(at)) {
                readNumber();
            } else {
                readSign();
            }
        }

        private boolean isLetter(int i) {
            return i < length && tape[i] >= 'a' && tape[i] <= 'z';
        }

        private boolean isFigure(int i) {
            return i < length && tape[i] >= '0' && tape[i] <= '9';
        }

        /** A letter that is twice, or one too many, ends the reading; it counts only if a chord can stand there. */
        private void readChord() {
            kind = CHORD;
            value = 0;
            spoiledAt = NOWHERE;
            for (int letters = 0; letters <= MOST_LETTERS && isLetter(at); letters++) {
                int w = tape[at] - 'a';
                if (w >= MOST_WHISTLES) {
                    fail(NO_TOKEN, at);
                    return;
                }
                if ((value >> w & 1) != 0 || letters == MOST_LETTERS) {
                    spoiledAt = at;
                    return;
                }
                value |= 1 << w;
                at++;
            }
        }

        private void readNumber() {
            kind = NUMBER;
            value = 0;
            for (int figures = 0; figures < MOST_FIGURES && isFigure(at); figures++) {
                value = value * 10 + tape[at] - '0';
                at++;
            }
            if (isFigure(at)) {
                fail(NO_TOKEN, place);
            }
        }

        private void readSign() {
            switch (tape[at]) {
                case '.':
                    kind = REST;
                    break;
                case '(':
                    kind = OPEN;
                    break;
                case ')':
                    kind = CLOSE;
                    break;
                default:
                    fail(NO_TOKEN, at);
            }
            at++;
        }

        /** Takes the token just read: what may stand behind it. */
        private int take(int want) {
            if (want == OPENING) {
                return kind == OPEN ? takeOpen() : misplaced();
            }
            switch (kind) {
                case CHORD:
                    return takeChord();
                case REST:
                    return addBeat(0);
                case NUMBER:
                    return takeNumber();
                case CLOSE:
                    return want == MORE && depth > 0 ? takeClose() : misplaced();
                case END:
                    return want == MORE && depth == 0 ? takeEnd() : misplaced();
                default:
                    return misplaced();
            }
        }

        private int takeChord() {
            if (spoiledAt != NOWHERE) {
                fail(LETTERS, spoiledAt);
            }
            return addBeat(value);
        }

        private int addBeat(int chord) {
            if (beats < MOST_BEATS) {
                row[beats] = chord;
            }
            beats = Math.min(MOST_BEATS + 1, beats + 1);
            return MORE;
        }

        private int takeNumber() {
            if (!isWithin(value, 1, MOST_ROUNDS)) {
                fail(NUMBER_BOUNDS, place);
            }
            return OPENING;
        }

        /** The number taken just before is still the value: an open has none. */
        private int takeOpen() {
            if (depth >= MOST_OPEN) {
                fail(TOO_DEEP, place);
                return NOTHING;
            }
            begins[depth] = beats;
            rounds[depth] = value;
            depth++;
            return ITEM;
        }

        private int takeClose() {
            depth--;
            int begin = begins[depth];
            int all = begin + (beats - begin) * rounds[depth];
            if (beats > MOST_BEATS || all > MOST_BEATS) {
                beats = MOST_BEATS + 1;
                return MORE;
            }
            int once = beats - begin;
            for (int i = beats; i < all; i++) {
                row[i] = row[i - once];
            }
            beats = all;
            return MORE;
        }

        private int takeEnd() {
            if (beats > MOST_BEATS) {
                fail(TOO_LONG, 0);
            }
            return NOTHING;
        }

        private int misplaced() {
            fail(CAN_NOT_STAND, place);
            return NOTHING;
        }

        private void fail(int newFault, int newPlace) {
            fault = newFault;
            faultPlace = newPlace;
        }
    }

    /** The tunes as rows of chords. */
    private static final class Tunes {
        final int[][] rows = new int[MOST_TUNES][MOST_BEATS];
        final int[] beats = new int[MOST_TUNES];
        int number = 0;

        /** The caller has seen that there is room, and that the row has 1 to 24 beats. */
        int add(int[] row, int n) {
            System.arraycopy(row, 0, rows[number], 0, n);
            beats[number] = n;
            number++;
            return number - 1;
        }

        boolean has(int t) {
            return 0 <= t && t < number;
        }

        int sounding(int t) {
            int sum = 0;
            for (int i = 0; i < beats[t]; i++) {
                sum += Integer.bitCount(rows[t][i]);
            }
            return sum;
        }

        int whistlesOf(int t) {
            int all = 0;
            for (int i = 0; i < beats[t]; i++) {
                all |= rows[t][i];
            }
            return all;
        }

        boolean goes(int t, int key, int whistles) {
            int all = whistlesOf(t);
            return all == 0 || leastOf(all) + key >= 0 && greatestOf(all) + key < whistles;
        }

        /** Only for a key in which the tune goes: then no bit is lost. */
        int chordIn(int t, int i, int key) {
            int chord = rows[t][i];
            return key >= 0 ? chord << key : chord >> -key;
        }
    }

    /** A tune set so that no note strays too far, by a table over beats, steam and the rests that are left. */
    private static final class Setting {
        private static final int LEVELS = MOST_RESTS + 1, STEAMS = MOST_STEAM + 1, MOST_OPTIONS = 32;
        // One whistle outweighs all rests, so that one number ranks both.
        private static final int WHISTLE = MOST_RESTS + 1;

        // Made when first needed: it is large, and many objects set no tune.
        private int[] table = null;
        // For each pressure the whistles whose off is not above the bound.
        private final int[] near = new int[STEAMS];
        private final int[] row = new int[MOST_BEATS];
        private int beats = 0;
        private int levels = 0;
        // The chords that may be left of a beat's chord, the greatest first, and what each draws.
        private final int[] option = new int[MOST_OPTIONS];
        private final int[] drawn = new int[MOST_OPTIONS];
        private int options = 0;
        private int idle = 0;
        private final int[] sounds = new int[MOST_BEATS];
        private final int[] ahead = new int[MOST_BEATS];
        private int total = 0;
        private int rested = 0;
        private int behind = 0;
        private final int[] asked = new int[5];
        private boolean isSolved = false;

        boolean isFor(int t, int key, int bound, int rests, int changes) {
            return isSolved && asked[0] == t && asked[1] == key && asked[2] == bound && asked[3] == rests
                && asked[4] == changes;
        }

        void remember(int t, int key, int bound, int rests, int changes) {
            asked[0] = t;
            asked[1] = key;
            asked[2] = bound;
            asked[3] = rests;
            asked[4] = changes;
            isSolved = true;
        }

        void takeTune(Tunes tunes, int t, int key) {
            beats = tunes.beats[t];
            for (int i = 0; i < beats; i++) {
                row[i] = tunes.chordIn(t, i, key);
            }
        }

        int answer(int what) {
            if (what == 0) {
                return total;
            }
            if (what == 1) {
                return rested;
            }
            if (what == 2) {
                return behind;
            }
            return what < 40 ? sounds[what - 10] : ahead[what - 40];
        }

        void solve(Boiler b, Whistles w, int bound, int rests) {
            if (table == null) {
                table = new int[(MOST_BEATS + 1) * STEAMS * LEVELS];
            }
            levels = rests + 1;
            idle = w.drawnBy(0, w.leaks);
            markNear(w, bound);
            Arrays.fill(table, cell(beats, 0), cell(beats + 1, 0), 0);
            for (int i = beats - 1; i >= 0; i--) {
                listOptions(w, row[i]);
                fillSounding(b, i);
                fillResting(b, i);
            }
            follow(b, w, rests);
        }

        private static int cell(int i, int p) {
            return (i * STEAMS + p) * LEVELS;
        }

        private void markNear(Whistles w, int bound) {
            for (int p = 0; p < STEAMS; p++) {
                near[p] = 0;
                for (int j = 0; j < w.number; j++) {
                    near[p] |= w.isNear(j, p, bound) ? 1 << j : 0;
                }
            }
        }

        private void listOptions(Whistles w, int chord) {
            options = 0;
            int left = chord;
            boolean isLast = false;
            while (options < MOST_OPTIONS && !isLast) {
                option[options] = left;
                drawn[options] = w.drawnBy(left, w.leaks);
                options++;
                isLast = left == 0;
                left = left - 1 & chord;
            }
        }

        private boolean isOpen(int o, int p) {
            return (option[o] & ~near[p]) == 0;
        }

        /** The best from beat i on, if it sounds at once. */
        private void fillSounding(Boiler b, int i) {
            for (int p = 0; p <= b.valve; p++) {
                int to = cell(i, p);
                for (int r = 0; r < levels; r++) {
                    table[to + r] = 0;
                }
                for (int o = 0; o < options; o++) {
                    if (isOpen(o, p)) {
                        int gain = WHISTLE * Integer.bitCount(option[o]);
                        raise(to, cell(i + 1, b.after(p, drawn[o])), gain);
                    }
                }
            }
        }

        private void raise(int to, int from, int gain) {
            for (int r = 0; r < levels; r++) {
                int worth = gain + table[from + r];
                if (worth > table[to + r]) {
                    table[to + r] = worth;
                }
            }
        }

        /** Level by level, for a rest leads to the level below at any pressure. */
        private void fillResting(Boiler b, int i) {
            for (int r = 1; r < levels; r++) {
                for (int p = 0; p <= b.valve; p++) {
                    int worth = table[cell(i, b.after(p, idle)) + r - 1] - 1;
                    int to = cell(i, p) + r;
                    table[to] = Math.max(table[to], worth);
                }
            }
        }

        private void follow(Boiler b, Whistles w, int rests) {
            int p = b.pressure;
            int r = rests;
            total = 0;
            for (int i = 0; i < beats; i++) {
                listOptions(w, row[i]);
                ahead[i] = 0;
                int o = bestOption(b, i, p, r);
                while (r > 0 && worthOf(b, i, p, r, o) < table[cell(i, p) + r]) {
                    p = b.after(p, idle);
                    r--;
                    ahead[i]++;
                    o = bestOption(b, i, p, r);
                }
                sounds[i] = option[o];
                total += Integer.bitCount(option[o]);
                p = b.after(p, drawn[o]);
            }
            rested = rests - r;
            behind = p;
        }

        /** The greatest chord among the best; the last option, no whistle, is always open. */
        private int bestOption(Boiler b, int i, int p, int r) {
            int best = options - 1;
            int most = -1;
            for (int o = 0; o < options; o++) {
                if (isOpen(o, p)) {
                    int worth = worthOf(b, i, p, r, o);
                    if (worth > most) {
                        most = worth;
                        best = o;
                    }
                }
            }
            return best;
        }

        private int worthOf(Boiler b, int i, int p, int r, int o) {
            return WHISTLE * Integer.bitCount(option[o]) + table[cell(i + 1, b.after(p, drawn[o])) + r];
        }
    }

    /** What was heard ashore, and the cracks and the key that explain it. */
    private static final class Suspects {
        static final int GAP = -32768;
        private static final int NO_KEY = -1;

        private final int[] row = new int[MOST_BEATS];
        private final int[] cells = new int[MOST_BEATS];
        private int beats = 0;
        private final int[] tried = new int[MOST_WHISTLES];
        private int known = 0;
        private final int[] cracks = new int[MOST_WHISTLES];
        private int many = 0;
        private int leaking = NO_KEY;

        void forget() {
            beats = 0;
        }

        void addBeat(int chord, int cell) {
            if (beats < MOST_BEATS) {
                row[beats] = chord;
                cells[beats] = cell;
                beats++;
            }
        }

        /** Without a key first, then from the least key on: a later one wins only by being fewer. */
        boolean find(Boiler b, Whistles w, int p) {
            boolean found = false;
            for (int k = NO_KEY; k < w.number; k++) {
                if (explains(b, w, p, k)) {
                    int fewer = triedCracks() + (k == NO_KEY ? 0 : 1);
                    if (!found || fewer < many) {
                        found = true;
                        many = fewer;
                        leaking = k;
                        System.arraycopy(tried, 0, cracks, 0, MOST_WHISTLES);
                    }
                }
            }
            return found;
        }

        private boolean explains(Boiler b, Whistles w, int from, int k) {
            Arrays.fill(tried, 0);
            known = 0;
            int leaks = k == NO_KEY ? 0 : 1 << k;
            int p = from;
            for (int i = 0; i < beats; i++) {
                if (row[i] != 0 && cells[i] != GAP && !agrees(w, leastOf(row[i]), p, cells[i])) {
                    return false;
                }
                p = b.after(p, w.drawnBy(row[i], leaks));
            }
            return true;
        }

        private boolean agrees(Whistles w, int lowest, int p, int cell) {
            int crack = cell - (w.note[lowest] + w.stem[lowest] + w.bentAt(lowest, p));
            boolean isKnown = (known >> lowest & 1) != 0;
            if (isKnown) {
                return tried[lowest] == crack;
            }
            known |= 1 << lowest;
            tried[lowest] = crack;
            return isWithin(crack, -MOST_CRACK, MOST_CRACK);
        }

        private int triedCracks() {
            int cracked = 0;
            for (int j = 0; j < MOST_WHISTLES; j++) {
                cracked += tried[j] != 0 ? 1 : 0;
            }
            return cracked;
        }

        int answer(int what) {
            if (what == 0) {
                return many;
            }
            if (what == 1) {
                return leaking == NO_KEY ? NONE : leaking;
            }
            return what == 2 ? crackedBits() : cracks[what - 20];
        }

        private int crackedBits() {
            int bits = 0;
            for (int j = 0; j < MOST_WHISTLES; j++) {
                bits |= cracks[j] != 0 ? 1 << j : 0;
            }
            return bits;
        }
    }

    /** The river with its bends and boats. */
    private static final class River {
        private static final int MOST_BOATS = 4, MOST_BENDS = 6;

        private final int[] boatPlace = new int[MOST_BOATS];
        private final int[] boatLag = new int[MOST_BOATS];
        int boats = 0;
        private final int[] bendPlace = new int[MOST_BENDS];
        private final int[] bendLength = new int[MOST_BENDS];
        int bends = 0;
        int speed = 10;
        // What the latest walk found.
        int inStep = 0;
        int firstPlace = NONE;
        int lastPlace = NONE;
        int longest = 0;

        boolean hasBoat(int boat) {
            return 0 <= boat && boat < boats;
        }

        int addBoat(int place, int lag) {
            if (boats >= MOST_BOATS) {
                return FULL;
            }
            boatPlace[boats] = place;
            boatLag[boats] = lag;
            boats++;
            return boats - 1;
        }

        boolean bendsAt(int place) {
            for (int i = 0; i < bends; i++) {
                if (bendPlace[i] == place) {
                    return true;
                }
            }
            return false;
        }

        int addBend(int place, int length) {
            if (bends >= MOST_BENDS) {
                return FULL;
            }
            bendPlace[bends] = place;
            bendLength[bends] = length;
            bends++;
            return bends;
        }

        int way(int x, int y) {
            int low = Math.min(x, y);
            int high = Math.max(x, y);
            int sum = high - low;
            for (int i = 0; i < bends; i++) {
                if (low < bendPlace[i] && bendPlace[i] <= high) {
                    sum += bendLength[i];
                }
            }
            return sum;
        }

        /** The beat in which the boat's beat 0 is heard; the speed is 1 at least. */
        int firstHeard(int boat, int place) {
            return boatLag[boat] + way(boatPlace[boat], place) / Math.max(1, speed);
        }

        void walk(int a, int b) {
            inStep = 0;
            firstPlace = NONE;
            lastPlace = NONE;
            longest = 0;
            int together = 0;
            for (int place = 0; place <= MOST_PLACE; place++) {
                if (firstHeard(a, place) != firstHeard(b, place)) {
                    together = 0;
                    continue;
                }
                inStep++;
                together++;
                firstPlace = firstPlace == NONE ? place : firstPlace;
                lastPlace = place;
                longest = Math.max(longest, together);
            }
        }
    }

    /** The sheets; each keeps its cells in a row of ints that is used again, cut to its lane as they are laid. */
    private static final class Sheets {
        static final int MOST_CELLS = 60;
        static final int NULL = 1, INDEX = 2, CAST = 3, SIZE = 4;
        private static final int SHEETS = 4, BYTES = 0, SHORTS = 1, INTS = 2, NOTHING = -1;

        final int[][] cells = new int[SHEETS][MOST_CELLS];
        private final int[] laneOf = new int[SHEETS];
        final int[] size = {NOTHING, NOTHING, NOTHING, NOTHING};

        boolean has(int k) {
            return 0 <= k && k < SHEETS;
        }

        boolean isLane(int lane) {
            return BYTES <= lane && lane <= INTS;
        }

        boolean isNothing(int k) {
            return size[k] == NOTHING;
        }

        boolean hasCell(int k, int i) {
            return 0 <= i && i < size[k];
        }

        /** The fault that the machine finds when the sheet is taken as of a lane, or 0. */
        int faultAs(int k, int lane) {
            if (isNothing(k)) {
                return NULL;
            }
            return laneOf[k] == lane ? 0 : CAST;
        }

        void renew(int k, int lane, int n) {
            Arrays.fill(cells[k], 0);
            laneOf[k] = lane;
            size[k] = n;
        }

        void put(int k, int i, int v) {
            if (laneOf[k] == BYTES) {
                cells[k][i] = (byte) v;
            } else {
                cells[k][i] = laneOf[k] == SHORTS ? (short) v : v;
            }
        }
    }
}
