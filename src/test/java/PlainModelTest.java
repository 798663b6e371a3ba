import java.util.Random;

/** All promises: random runs of calls on the class and on the plain model, with fixed seeds. */
public final class PlainModelTest {
    private static final int RUNS = 1500;
    private static final Check CHECK = new Check();

    private final Random random;
    private final SteamTunes x = new SteamTunes();
    private final PlainModel m = new PlainModel();
    private final int seed;

    private PlainModelTest(int seed) {
        this.seed = seed;
        random = new Random(seed);
    }

    public static void main(String[] args) {
        for (int seed = 0; seed < RUNS; seed++) {
            new PlainModelTest(seed).run();
        }
        CHECK.finish();
    }

    private void due(String call, int got, int want) {
        CHECK.due("seed " + seed + ": " + call, got, want);
    }

    /** Mostly within the bounds, often at them, at times one beyond, seldom far away. */
    private int near(int least, int most) {
        int way = random.nextInt(40);
        if (way < 2) {
            return least;
        }
        if (way < 4) {
            return most;
        }
        if (way == 4) {
            return least - 1;
        }
        if (way == 5) {
            return most + 1;
        }
        if (way == 6 && random.nextInt(4) == 0) {
            return random.nextBoolean() ? random.nextInt() : random.nextBoolean() ? Integer.MIN_VALUE : Integer.MAX_VALUE;
        }
        return least + random.nextInt(Math.max(1, most - least + 1));
    }

    private int whistle() {
        return near(0, Math.max(0, m.whistles.size() - 1));
    }

    private int tune() {
        return near(0, Math.max(0, m.tunes.size() - 1));
    }

    private int key() {
        return random.nextInt(3) > 0 ? near(-2, 2) : near(-11, 11);
    }

    private void run() {
        int kind = seed % 5;
        for (int w = random.nextInt(8); w > 0; w--) {
            addWhistle();
        }
        for (int i = 0; i < 200; i++) {
            int what = random.nextInt(100);
            if (kind == 0 && what < 60) {
                steamCall();
            } else if (kind == 1 && what < 60) {
                tuneCall();
            } else if (kind == 2 && what < 60) {
                setCall();
            } else if (kind == 3 && what < 60) {
                heardCall();
            } else if (kind == 4 && what < 30) {
                boatCall();
            } else if (kind == 4 && what < 60) {
                sheetCall();
            } else if (what < 70) {
                steamCall();
            } else if (what < 80) {
                whistleCall();
            } else if (what < 85) {
                tuneCall();
            } else if (what < 89) {
                setCall();
            } else if (what < 93) {
                heardCall();
            } else if (what < 96) {
                boatCall();
            } else {
                sheetCall();
            }
        }
        for (int c = -1; c <= 9; c++) {
            due("count(" + c + ")", x.count(c), m.count(c));
            due("boiler(" + c + ")", x.boiler(c), m.boiler(c));
        }
    }

    private void addWhistle() {
        int note = near(0, 3600);
        int draw = near(1, 9);
        int slope = near(0, 20);
        boolean stuck = random.nextInt(4) == 0;
        due("whistle", x.whistle(note, draw, slope, stuck), m.whistle(note, draw, slope, stuck));
    }

    private void steamCall() {
        int w = whistle();
        int v;
        switch (random.nextInt(14)) {
            case 0:
                v = near(0, 9);
                due("fire(" + v + ")", x.fire(v), m.fire(v));
                break;
            case 1:
                v = random.nextBoolean() ? near(1, 9999) : near(1, 30);
                due("water(" + v + ")", x.water(v), m.water(v));
                break;
            case 2:
                v = near(50, 200);
                due("valve(" + v + ")", x.valve(v), m.valve(v));
                break;
            case 3:
                v = near(0, m.steam.valve);
                due("pressure(" + v + ")", x.pressure(v), m.pressure(v));
                break;
            case 4:
                v = near(-100, 100);
                due("stem(" + w + ", " + v + ")", x.stem(w, v), m.stem(w, v));
                break;
            case 5:
                v = near(-200, 200);
                due("crack(" + w + ", " + v + ")", x.crack(w, v), m.crack(w, v));
                break;
            case 6:
                boolean is = random.nextBoolean();
                due("leak(" + w + ", " + is + ")", x.leak(w, is), m.leak(w, is));
                break;
            case 7:
                v = near(0, 200);
                due("tuneAll(" + v + ")", x.tuneAll(v), m.tuneAll(v));
                break;
            case 8:
                due("undo()", x.undo(), m.undo());
                break;
            case 9:
                v = near(0, 5);
                due("boiler(" + v + ")", x.boiler(v), m.boiler(v));
                break;
            default:
                for (int i = random.nextInt(12); i >= 0; i--) {
                    v = near(0, (1 << m.whistles.size()) - 1);
                    due("beat(" + v + ")", x.beat(v), m.beat(v));
                }
        }
    }

    private void whistleCall() {
        int w = whistle();
        int v;
        switch (random.nextInt(6)) {
            case 0:
                addWhistle();
                break;
            case 1:
                v = near(0, 6);
                due("told(" + w + ", " + v + ")", x.told(w, v), m.told(w, v));
                break;
            case 2:
                v = near(0, 200);
                due("pitch(" + w + ", " + v + ")", x.pitch(w, v), m.pitch(w, v));
                break;
            case 3:
                v = near(0, 400);
                due("holds(" + w + ", " + v + ")", x.holds(w, v), m.holds(w, v));
                break;
            case 4:
                v = near(0, 2);
                due("agree(" + v + ")", x.agree(v), m.agree(v));
                break;
            default:
                v = near(0, 8);
                due("count(" + v + ")", x.count(v), m.count(v));
        }
    }

    private String items(int depth) {
        StringBuilder b = new StringBuilder();
        for (int n = random.nextInt(depth == 0 ? 7 : 3); n >= 0; n--) {
            int way = random.nextInt(10);
            if (way < 2) {
                b.append('.');
            } else if (way < 4 && depth < (random.nextInt(9) == 0 ? 5 : 3)) {
                b.append(1 + random.nextInt(3)).append(random.nextInt(5) == 0 ? " (" : "(");
                b.append(items(depth + 1)).append(')');
            } else {
                int letters = Math.max(1, Math.min(12, m.whistles.size() - random.nextInt(2)));
                int first = random.nextInt(letters);
                for (int i = random.nextInt(4); i >= 0; i--) {
                    char c = (char) ('a' + (first + i * 5) % letters);
                    if (b.toString().lastIndexOf(c) <= b.toString().lastIndexOf(' ')) {
                        b.append(c);
                    }
                }
            }
            b.append(random.nextInt(6) == 0 ? "" : " ");
        }
        return b.toString();
    }

    private String spoiled(String text) {
        String signs = "abklmzA0129.()  \t";
        StringBuilder b = new StringBuilder(text);
        int at = random.nextInt(b.length() + 1);
        char c = random.nextInt(20) == 0 ? (char) random.nextInt(256) : signs.charAt(random.nextInt(signs.length()));
        switch (random.nextInt(3)) {
            case 0:
                b.insert(at, c);
                break;
            case 1:
                b.setLength(at);
                break;
            default:
                if (at < b.length()) {
                    b.setCharAt(at, c);
                }
        }
        return b.toString();
    }

    private void text() {
        String text = items(0);
        for (int i = random.nextInt(3); i > 0; i--) {
            text = spoiled(text);
        }
        if (text.length() > 160) {
            text = text.substring(0, 160);
        }
        due("end(0)", x.end(0), m.end(0));
        for (int i = 0; i < text.length(); i += 8) {
            long v = 0;
            for (int j = i; j < i + 8; j++) {
                v = v << 8 | (j < text.length() ? text.charAt(j) : random.nextInt(256));
            }
            due("feed", x.feed(v), m.feed(v));
        }
        due("end", x.end(text.length()), m.end(text.length()));
        due("tune() of '" + text + "'", x.tune(), m.tune());
        due("fault() of '" + text + "'", x.fault(), m.fault());
    }

    private void tuneCall() {
        int t = tune();
        int k = key();
        int v;
        switch (random.nextInt(8)) {
            case 0:
            case 1:
                text();
                break;
            case 2:
                v = near(0, 40);
                due("tuneOf(" + t + ", " + v + ")", x.tuneOf(t, v), m.tuneOf(t, v));
                break;
            case 3:
                due("play(" + t + ", " + k + ")", x.play(t, k), m.play(t, k));
                break;
            case 4:
                due("would(" + t + ", " + k + ")", x.would(t, k), m.would(t, k));
                break;
            case 5:
                v = near(0, 2);
                due("key(" + t + ", " + v + ")", x.key(t, v), m.key(t, v));
                break;
            case 6:
                long bytes = random.nextLong();
                due("feed", x.feed(bytes), m.feed(bytes));
                break;
            default:
                v = near(0, m.tape.length());
                due("end(" + v + ")", x.end(v), m.end(v));
        }
    }

    private void setCall() {
        if (m.tunes.isEmpty()) {
            text();
        }
        int t = tune();
        int k = key();
        int bound = random.nextBoolean() ? near(0, 30) : near(0, 400);
        int rests = random.nextBoolean() ? near(0, 3) : near(0, 8);
        for (int i = random.nextInt(3); i >= 0; i--) {
            int beats = t >= 0 && t < m.tunes.size() ? m.tunes.get(t).size() : 1;
            int way = random.nextInt(3);
            int what = way == 0 ? near(0, 2) : way == 1 ? near(10, 9 + beats) : near(40, 39 + beats);
            String call = "set(" + t + ", " + k + ", " + bound + ", " + rests + ", " + what + ")";
            due(call, x.set(t, k, bound, rests, what), m.set(t, k, bound, rests, what));
        }
    }

    /** Lays what would be heard if a key leaked and some whistles were cracked, with gaps and a slip at times. */
    private void layHeard(int t, int k, int p, int sheet, int lane, int f) {
        PlainModel other = new PlainModel();
        for (PlainModel.Whistle w : m.whistles) {
            PlainModel.Whistle copy = w.copy();
            copy.leaks = false;
            copy.crack = random.nextInt(3) == 0 ? random.nextInt(401) - 200 : 0;
            other.whistles.add(copy);
        }
        if (random.nextBoolean() && !other.whistles.isEmpty()) {
            other.whistles.get(random.nextInt(other.whistles.size())).leaks = true;
        }
        other.steam = m.steam.copy();
        other.steam.pressure = p;
        int i = 0;
        for (int chord : m.tunes.get(t)) {
            other.steam.water = 9999;
            int moved = k >= 0 ? chord << k : chord >> -k;
            int cell = random.nextInt(5) == 0 || moved == 0 ? -32768
                : other.pitch(Integer.numberOfTrailingZeros(moved), other.steam.pressure);
            cell += random.nextInt(40) == 0 ? 1 : 0;
            x.lay(sheet, f + i, cell);
            m.lay(sheet, f + i, cell);
            other.beat(moved);
            i++;
        }
    }

    private void heardCall() {
        if (m.tunes.isEmpty() || random.nextInt(8) == 0) {
            text();
        }
        int t = tune();
        int k = key();
        int p = near(0, m.steam.valve);
        int sheet = near(0, 3);
        int lane = random.nextInt(4) > 0 ? 1 + random.nextInt(2) : near(0, 2);
        int f = near(0, 20);
        if (random.nextInt(4) > 0) {
            int n = random.nextInt(6) == 0 ? near(0, 60) : Math.min(60, Math.max(0, f) + 24);
            due("sheet", x.sheet(sheet, lane, n), m.sheet(sheet, lane, n));
        }
        if (m.would(t, k) != -1 && m.would(t, k) != -2 && p >= 0 && p <= m.steam.valve) {
            layHeard(t, k, p, sheet, lane, f);
        }
        for (int i = random.nextInt(3); i >= 0; i--) {
            int what = random.nextBoolean() ? near(0, 2) : near(20, 19 + m.whistles.size());
            String call = "blame(" + t + ", " + k + ", " + p + ", " + sheet + ", " + lane + ", " + f + ", " + what + ")";
            due(call, x.blame(t, k, p, sheet, lane, f, what), m.blame(t, k, p, sheet, lane, f, what));
        }
    }

    private void boatCall() {
        int a = near(0, Math.max(0, m.boats.size() - 1));
        int b = near(0, Math.max(0, m.boats.size() - 1));
        int p = near(0, 999);
        int v;
        switch (random.nextInt(6)) {
            case 0:
                v = near(0, 99);
                due("boat(" + p + ", " + v + ")", x.boat(p, v), m.boat(p, v));
                break;
            case 1:
                v = near(1, 99);
                due("bend(" + p + ", " + v + ")", x.bend(p, v), m.bend(p, v));
                break;
            case 2:
                v = near(1, 99);
                due("speed(" + v + ")", x.speed(v), m.speed(v));
                break;
            case 3:
                v = near(0, 999);
                due("far(" + p + ", " + v + ")", x.far(p, v), m.far(p, v));
                break;
            case 4:
                v = near(0, 99);
                due("heard(" + a + ", " + v + ", " + p + ")", x.heard(a, v, p), m.heard(a, v, p));
                break;
            default:
                v = near(0, 3);
                due("step(" + a + ", " + b + ", " + v + ")", x.step(a, b, v), m.step(a, b, v));
        }
    }

    private void sheetCall() {
        int k = near(0, 3);
        int lane = near(0, 2);
        int n;
        switch (random.nextInt(5)) {
            case 0:
                n = near(0, 60);
                due("sheet(" + k + ", " + lane + ", " + n + ")", x.sheet(k, lane, n), m.sheet(k, lane, n));
                break;
            case 1:
                int i = near(0, 59);
                int v = random.nextBoolean() ? random.nextInt() : near(0, 9);
                due("lay(" + k + ", " + i + ", " + v + ")", x.lay(k, i, v), m.lay(k, i, v));
                break;
            case 2:
                due("sheet(" + k + ", " + lane + ", 20)", x.sheet(k, lane, 20), m.sheet(k, lane, 20));
                for (int c = 0; c < 20; c++) {
                    int cell = c % 4 == 0 ? near(0, 100) : near(1, 9);
                    due("lay(" + k + ", " + c + ", " + cell + ")", x.lay(k, c, cell), m.lay(k, c, cell));
                }
                n = near(0, 4);
                due("scan(" + k + ", " + lane + ", 0, " + n + ")", x.scan(k, lane, 0, n), m.scan(k, lane, 0, n));
                break;
            default:
                n = near(0, 12);
                int f = near(0, 59);
                due("scan(" + k + ", " + lane + ", " + f + ", " + n + ")", x.scan(k, lane, f, n), m.scan(k, lane, f, n));
        }
    }
}
