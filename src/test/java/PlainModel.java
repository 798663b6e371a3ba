import java.util.ArrayDeque;
import java.util.ArrayList;
import java.util.Deque;
import java.util.HashMap;
import java.util.List;
import java.util.Map;

/** The document once more, slowly and plainly, with all that the Java library gives: what the tests compare with. */
final class PlainModel {
    static final class Whistle implements Cloneable {
        int note;
        int draw;
        int slope;
        boolean stuck;
        int stem;
        int crack;
        boolean leaks;

        int off(int p) {
            return stem + crack + (int) Math.floor(slope * (p - 100) / 10.0);
        }

        Whistle copy() {
            try {
                return (Whistle) clone();
            } catch (CloneNotSupportedException e) {
                throw new IllegalStateException(e);
            }
        }
    }

    static final class Steam {
        int pressure = 100;
        int water = 1000;
        int fire = 3;
        int valve = 150;
        int blows;

        Steam copy() {
            Steam s = new Steam();
            s.pressure = pressure;
            s.water = water;
            s.fire = fire;
            s.valve = valve;
            s.blows = blows;
            return s;
        }
    }

    static final class Past {
        final Steam steam;
        final List<Whistle> whistles = new ArrayList<>();

        Past(PlainModel m) {
            steam = m.steam.copy();
            for (Whistle w : m.whistles) {
                whistles.add(w.copy());
            }
        }
    }

    static final class TextFault extends Exception {
        private static final long serialVersionUID = 1L;
        final int fault;
        final int place;

        TextFault(int fault, int place) {
            this.fault = fault;
            this.place = place;
        }
    }

    /** A way to set a tune from some beat on. */
    static final class Plan {
        int sounding;
        int rests;
        final List<Integer> ahead = new ArrayList<>();
        final List<Integer> chords = new ArrayList<>();
        int behind;

        boolean isBetterThan(Plan o) {
            if (o == null) {
                return true;
            }
            if (sounding != o.sounding) {
                return sounding > o.sounding;
            }
            if (rests != o.rests) {
                return rests < o.rests;
            }
            for (int i = 0; i < ahead.size(); i++) {
                if (!ahead.get(i).equals(o.ahead.get(i))) {
                    return ahead.get(i) < o.ahead.get(i);
                }
                if (!chords.get(i).equals(o.chords.get(i))) {
                    return chords.get(i) > o.chords.get(i);
                }
            }
            return false;
        }
    }

    Steam steam = new Steam();
    List<Whistle> whistles = new ArrayList<>();
    final Deque<Past> past = new ArrayDeque<>();
    String tape = "";
    final List<List<Integer>> tunes = new ArrayList<>();
    int fault;
    final List<int[]> boats = new ArrayList<>();
    final Map<Integer, Integer> bends = new HashMap<>();
    int speed = 10;
    final Object[] sheets = new Object[4];

    private void act() {
        past.addLast(new Past(this));
        if (past.size() > 10) {
            past.removeFirst();
        }
    }

    private static boolean in(int v, int a, int b) {
        return v >= a && v <= b;
    }

    private boolean isWhistle(int w) {
        return in(w, 0, whistles.size() - 1);
    }

    int fire(int v) {
        if (!in(v, 0, 9)) {
            return -1;
        }
        act();
        int was = steam.fire;
        steam.fire = v;
        return was;
    }

    int water(int v) {
        if (!in(v, 1, 9999)) {
            return -1;
        }
        act();
        steam.water += v;
        if (steam.water > 9999) {
            steam.water = 9999;
        }
        return steam.water;
    }

    int valve(int v) {
        if (!in(v, 50, 200)) {
            return -1;
        }
        act();
        int was = steam.valve;
        steam.valve = v;
        if (steam.pressure > v) {
            steam.pressure = v;
        }
        return was;
    }

    int pressure(int v) {
        if (!in(v, 0, 200) || v > steam.valve) {
            return -1;
        }
        act();
        int was = steam.pressure;
        steam.pressure = v;
        return was;
    }

    int boiler(int what) {
        int[] all = {steam.pressure, steam.water, steam.fire, steam.valve, steam.blows, drawn(List.of(), leaking())};
        return in(what, 0, 5) ? all[what] : -1;
    }

    private List<Integer> leaking() {
        List<Integer> list = new ArrayList<>();
        for (int w = 0; w < whistles.size(); w++) {
            if (whistles.get(w).leaks) {
                list.add(w);
            }
        }
        return list;
    }

    private int drawn(List<Integer> chord, List<Integer> leaks) {
        int sum = 0;
        for (int w : chord) {
            sum += whistles.get(w).draw;
        }
        for (int w : leaks) {
            if (!chord.contains(w)) {
                sum += whistles.get(w).draw / 2;
            }
        }
        return sum;
    }

    private static List<Integer> members(int bits) {
        List<Integer> list = new ArrayList<>();
        for (int w = 0; w < 31; w++) {
            if ((bits & 1 << w) != 0) {
                list.add(w);
            }
        }
        return list;
    }

    /** A beat on s: its stray, or -5. */
    private int beatOn(Steam s, List<Integer> chord) {
        int d = drawn(chord, leaking());
        if (d > s.water) {
            return -5;
        }
        int stray = 0;
        for (int w : chord) {
            stray = Math.max(stray, Math.abs(whistles.get(w).off(s.pressure)));
        }
        s.water -= d;
        int p = s.pressure - d;
        if (s.water != 0) {
            p += 2 * s.fire;
        }
        if (p < 0) {
            p = 0;
        }
        if (p > s.valve) {
            s.water -= p - s.valve;
            if (s.water < 0) {
                s.water = 0;
            }
            p = s.valve;
            s.blows++;
        }
        s.pressure = p;
        return stray;
    }

    int beat(int chord) {
        if (chord < 0 || chord >= 1 << whistles.size()) {
            return -1;
        }
        Steam s = steam.copy();
        int answer = beatOn(s, members(chord));
        if (answer >= 0) {
            act();
            steam = s;
        }
        return answer;
    }

    int whistle(int note, int draw, int slope, boolean stuck) {
        if (!in(note, 0, 3600) || !in(draw, 1, 9) || !in(slope, 0, 20)) {
            return -1;
        }
        if (whistles.size() == 12) {
            return -3;
        }
        Whistle w = new Whistle();
        w.note = note;
        w.draw = draw;
        w.slope = slope;
        w.stuck = stuck;
        whistles.add(w);
        return whistles.size() - 1;
    }

    int told(int w, int what) {
        if (!isWhistle(w) || !in(what, 0, 6)) {
            return -10000;
        }
        Whistle x = whistles.get(w);
        return new int[] {x.note, x.draw, x.slope, x.stuck ? 1 : 0, x.stem, x.crack, x.leaks ? 1 : 0}[what];
    }

    int stem(int w, int v) {
        if (!isWhistle(w) || !in(v, -100, 100)) {
            return -10000;
        }
        if (whistles.get(w).stuck) {
            return -10002;
        }
        act();
        int was = whistles.get(w).stem;
        whistles.get(w).stem = v;
        return was;
    }

    int crack(int w, int v) {
        if (!isWhistle(w) || !in(v, -200, 200)) {
            return -10000;
        }
        act();
        int was = whistles.get(w).crack;
        whistles.get(w).crack = v;
        return was;
    }

    int leak(int w, boolean is) {
        if (!isWhistle(w)) {
            return -1;
        }
        act();
        int was = whistles.get(w).leaks ? 1 : 0;
        whistles.get(w).leaks = is;
        return was;
    }

    int pitch(int w, int p) {
        if (!isWhistle(w) || !in(p, 0, 200)) {
            return -10000;
        }
        return whistles.get(w).note + whistles.get(w).off(p);
    }

    int holds(int w, int bound) {
        if (!isWhistle(w) || !in(bound, 0, 400)) {
            return -1;
        }
        for (int p = 0; p <= steam.valve; p++) {
            boolean never = true;
            for (int q = p; q <= steam.valve; q++) {
                never &= Math.abs(whistles.get(w).off(q)) <= bound;
            }
            if (never) {
                return p;
            }
        }
        return -4;
    }

    int tuneAll(int p) {
        if (!in(p, 0, 200)) {
            return -1;
        }
        act();
        int count = 0;
        for (Whistle w : whistles) {
            if (!w.stuck) {
                int best = -100;
                int least = Integer.MAX_VALUE;
                for (int s = -100; s <= 100; s++) {
                    w.stem = s;
                    if (Math.abs(w.off(p)) < least) {
                        least = Math.abs(w.off(p));
                        best = s;
                    }
                }
                w.stem = best;
            }
            count += w.off(p) != 0 ? 1 : 0;
        }
        return count;
    }

    int agree(int what) {
        if (!in(what, 0, 2)) {
            return -1;
        }
        if (whistles.isEmpty()) {
            return -4;
        }
        int[] best = null;
        for (int p = 0; p <= steam.valve; p++) {
            int most = 0;
            int exact = 0;
            for (Whistle w : whistles) {
                most = Math.max(most, Math.abs(w.off(p)));
                exact += w.off(p) == 0 ? 1 : 0;
            }
            if (best == null || most <= best[1]) {
                best = new int[] {p, most, exact};
            }
        }
        return best[what];
    }

    int feed(long v) {
        if (tape.length() + 8 > 160) {
            return -3;
        }
        StringBuilder b = new StringBuilder(tape);
        for (int shift = 56; shift >= 0; shift -= 8) {
            b.append((char) (v >>> shift & 255));
        }
        tape = b.toString();
        return tape.length();
    }

    int end(int n) {
        if (!in(n, 0, tape.length())) {
            return -1;
        }
        int had = tape.length();
        tape = tape.substring(0, n);
        return had;
    }

    // The text by recursion: each method looks at the token from "at" on and takes it.
    private int at;

    private int blanks() {
        while (at < tape.length() && tape.charAt(at) == ' ') {
            at++;
        }
        return at < tape.length() ? tape.charAt(at) : -1;
    }

    private static boolean small(int c) {
        return c >= 'a' && c <= 'z';
    }

    private static boolean figure(int c) {
        return c >= '0' && c <= '9';
    }

    /** The kind of the next token by its first sign, -1 for the end; faults of what is no token. */
    private int look() throws TextFault {
        int c = blanks();
        if (c == -1 || c == '.' || c == '(' || c == ')') {
            return c;
        }
        if (figure(c)) {
            if (at + 2 < tape.length() && figure(tape.charAt(at + 1)) && figure(tape.charAt(at + 2))) {
                throw new TextFault(1, at);
            }
            return '0';
        }
        if (!small(c)) {
            throw new TextFault(1, at);
        }
        String seen = "";
        for (int i = at; i < tape.length() && small(tape.charAt(i)); i++) {
            if (tape.charAt(i) > 'l') {
                throw new TextFault(1, i);
            }
            if (seen.indexOf(tape.charAt(i)) >= 0 || seen.length() == 5) {
                break;
            }
            seen += tape.charAt(i);
        }
        return 'a';
    }

    private long items(int depth, List<Integer> into) throws TextFault {
        long beats = item(depth, into);
        for (int kind = look(); kind == 'a' || kind == '.' || kind == '0'; kind = look()) {
            beats += item(depth, into);
        }
        return beats;
    }

    private long item(int depth, List<Integer> into) throws TextFault {
        int kind = look();
        if (kind == '.') {
            at++;
            into.add(0);
            return 1;
        }
        if (kind == 'a') {
            int bits = 0;
            for (int n = 1; at < tape.length() && small(tape.charAt(at)); n++) {
                int bit = 1 << tape.charAt(at) - 'a';
                if ((bits & bit) != 0 || n == 6) {
                    throw new TextFault(4, at);
                }
                bits |= bit;
                at++;
            }
            into.add(bits);
            return 1;
        }
        if (kind != '0') {
            throw new TextFault(2, at);
        }
        return round(depth, into);
    }

    private long round(int depth, List<Integer> into) throws TextFault {
        int from = at;
        while (at < tape.length() && figure(tape.charAt(at))) {
            at++;
        }
        int often = Integer.parseInt(tape.substring(from, at));
        if (!in(often, 1, 20)) {
            throw new TextFault(3, from);
        }
        if (look() != '(') {
            throw new TextFault(2, at);
        }
        if (depth == 4) {
            throw new TextFault(5, at);
        }
        at++;
        List<Integer> once = new ArrayList<>();
        long beats = items(depth + 1, once);
        if (look() != ')') {
            throw new TextFault(2, at);
        }
        at++;
        for (int i = 0; i < often && into.size() < 100; i++) {
            into.addAll(once);
        }
        return often * beats;
    }

    int tune() {
        if (tunes.size() == 6) {
            return -3;
        }
        List<Integer> row = new ArrayList<>();
        at = 0;
        try {
            long beats = items(0, row);
            if (look() != -1) {
                throw new TextFault(2, at);
            }
            if (beats > 24) {
                throw new TextFault(6, 0);
            }
        } catch (TextFault f) {
            fault = f.fault;
            tape = "";
            return -10 - f.place;
        }
        fault = 0;
        tape = "";
        tunes.add(row);
        return tunes.size() - 1;
    }

    int fault() {
        return fault;
    }

    private boolean isTune(int t) {
        return in(t, 0, tunes.size() - 1);
    }

    int tuneOf(int t, int what) {
        if (!isTune(t)) {
            return -1;
        }
        List<Integer> row = tunes.get(t);
        int sum = 0;
        int least = -4;
        int most = -4;
        for (int chord : row) {
            for (int w : members(chord)) {
                sum++;
                least = least == -4 ? w : Math.min(least, w);
                most = Math.max(most, w);
            }
        }
        if (in(what, 0, 3)) {
            return new int[] {row.size(), sum, least, most}[what];
        }
        return what >= 10 && what < 10 + row.size() ? row.get(what - 10) : -1;
    }

    /** The tune in a key as lists of whistles, or null if it does not go. */
    private List<List<Integer>> inKey(int t, int key) {
        List<List<Integer>> all = new ArrayList<>();
        for (int chord : tunes.get(t)) {
            List<Integer> moved = new ArrayList<>();
            for (int w : members(chord)) {
                if (!isWhistle(w + key)) {
                    return null;
                }
                moved.add(w + key);
            }
            all.add(moved);
        }
        return all;
    }

    private int playOn(Steam s, int t, int key) {
        if (!isTune(t) || !in(key, -11, 11)) {
            return -1;
        }
        List<List<Integer>> chords = inKey(t, key);
        if (chords == null) {
            return -2;
        }
        int stray = 0;
        for (int i = 0; i < chords.size(); i++) {
            int one = beatOn(s, chords.get(i));
            if (one == -5) {
                return -100 - i;
            }
            stray = Math.max(stray, one);
        }
        return stray;
    }

    int play(int t, int key) {
        Steam s = steam.copy();
        int answer = playOn(s, t, key);
        if (answer >= 0 || answer <= -101) {
            act();
            steam = s;
        }
        return answer;
    }

    int would(int t, int key) {
        return playOn(steam.copy(), t, key);
    }

    int key(int t, int what) {
        if (!isTune(t) || !in(what, 0, 2)) {
            return -100;
        }
        List<int[]> found = new ArrayList<>();
        int goes = 0;
        for (int k = 11; k >= -11; k--) {
            int answer = would(t, k);
            goes += answer == -2 ? 0 : 1;
            if (answer >= 0) {
                found.add(new int[] {answer, Math.abs(k), k});
            }
        }
        if (what == 2) {
            return goes;
        }
        if (found.isEmpty()) {
            return -104;
        }
        found.sort((a, b) -> a[0] != b[0] ? a[0] - b[0] : a[1] != b[1] ? a[1] - b[1] : a[2] - b[2]);
        return what == 0 ? found.get(0)[2] : found.get(0)[0];
    }

    private int free(int p, int d) {
        int q = Math.max(0, p + 2 * steam.fire - d);
        return q > steam.valve ? steam.valve : q;
    }

    private Plan plan(List<List<Integer>> chords, int i, int p, int rests, int bound, Map<Integer, Plan> known) {
        if (i == chords.size()) {
            Plan none = new Plan();
            none.behind = p;
            return none;
        }
        int name = (i * 1000 + p) * 10 + rests;
        if (known.containsKey(name)) {
            return known.get(name);
        }
        Plan best = null;
        int q = p;
        for (int k = 0; k <= rests; k++) {
            int full = 0;
            for (int w : chords.get(i)) {
                full |= Math.abs(whistles.get(w).off(q)) <= bound ? 1 << w : 0;
            }
            for (int chord = 0; chord <= full; chord++) {
                if ((chord & ~full) == 0) {
                    int d = drawn(members(chord), leaking());
                    Plan rest = plan(chords, i + 1, free(q, d), rests - k, bound, known);
                    Plan one = new Plan();
                    one.sounding = Integer.bitCount(chord) + rest.sounding;
                    one.rests = k + rest.rests;
                    one.ahead.add(k);
                    one.ahead.addAll(rest.ahead);
                    one.chords.add(chord);
                    one.chords.addAll(rest.chords);
                    one.behind = rest.behind;
                    if (one.isBetterThan(best)) {
                        best = one;
                    }
                }
            }
            q = free(q, drawn(List.of(), leaking()));
        }
        known.put(name, best);
        return best;
    }

    int set(int t, int key, int bound, int rests, int what) {
        if (!isTune(t) || !in(key, -11, 11) || !in(bound, 0, 400) || !in(rests, 0, 8)) {
            return -1;
        }
        int n = tunes.get(t).size();
        if (!in(what, 0, 2) && !in(what, 10, 9 + n) && !in(what, 40, 39 + n)) {
            return -1;
        }
        List<List<Integer>> chords = inKey(t, key);
        if (chords == null) {
            return -2;
        }
        Plan best = plan(chords, 0, steam.pressure, rests, bound, new HashMap<>());
        if (what < 10) {
            return new int[] {best.sounding, best.rests, best.behind}[what];
        }
        return what < 40 ? best.chords.get(what - 10) : best.ahead.get(what - 40);
    }

    private static int laneOf(Object sheet) {
        return sheet instanceof byte[] ? 0 : sheet instanceof short[] ? 1 : 2;
    }

    private static int cells(Object sheet) {
        return java.lang.reflect.Array.getLength(sheet);
    }

    private static int cell(Object sheet, int i) {
        return ((Number) java.lang.reflect.Array.get(sheet, i)).intValue();
    }

    int blame(int t, int key, int p, int k, int lane, int f, int what) {
        boolean told = in(what, 0, 2) || in(what, 20, 19 + whistles.size());
        if (!isTune(t) || !in(key, -11, 11) || !in(p, 0, steam.valve) || !in(k, 0, 3) || !in(lane, 0, 2) || !told) {
            return -1000;
        }
        List<List<Integer>> chords = inKey(t, key);
        if (chords == null) {
            return -1002;
        }
        if (sheets[k] == null) {
            return -1011;
        }
        if (laneOf(sheets[k]) != lane) {
            return -1013;
        }
        for (int i = 0; i < chords.size(); i++) {
            long c = (long) f + i;
            if (!chords.get(i).isEmpty() && (c < 0 || c >= cells(sheets[k]))) {
                return -1012;
            }
        }
        Map<Integer, Long> best = null;
        long bestMany = 0;
        int bestKey = -4;
        for (int leak = -1; leak < whistles.size(); leak++) {
            Map<Integer, Long> cracks = cracksBy(chords, p, leak, sheets[k], f);
            if (cracks == null) {
                continue;
            }
            long many = leak >= 0 ? 1 : 0;
            for (long c : cracks.values()) {
                many += c != 0 ? 1 : 0;
            }
            if (best == null || many < bestMany) {
                best = cracks;
                bestMany = many;
                bestKey = leak < 0 ? -4 : leak;
            }
        }
        if (best == null) {
            return -1004;
        }
        int bits = 0;
        for (Map.Entry<Integer, Long> e : best.entrySet()) {
            bits |= e.getValue() != 0 ? 1 << e.getKey() : 0;
        }
        if (what < 20) {
            return new int[] {(int) bestMany, bestKey, bits}[what];
        }
        return (int) (long) best.getOrDefault(what - 20, 0L);
    }

    private Map<Integer, Long> cracksBy(List<List<Integer>> chords, int from, int leak, Object sheet, int f) {
        Map<Integer, Long> cracks = new HashMap<>();
        List<Integer> leaks = leak < 0 ? List.of() : List.of(leak);
        int p = from;
        for (int i = 0; i < chords.size(); i++) {
            if (!chords.get(i).isEmpty() && cell(sheet, f + i) != -32768) {
                int w = java.util.Collections.min(chords.get(i));
                Whistle x = whistles.get(w);
                long crack = (long) cell(sheet, f + i) - x.note - (x.off(p) - x.crack);
                Long before = cracks.put(w, crack);
                if (crack < -200 || crack > 200 || before != null && before != crack) {
                    return null;
                }
            }
            p = free(p, drawn(chords.get(i), leaks));
        }
        return cracks;
    }

    int boat(int place, int lag) {
        if (!in(place, 0, 999) || !in(lag, 0, 99)) {
            return -1;
        }
        if (boats.size() == 4) {
            return -3;
        }
        boats.add(new int[] {place, lag});
        return boats.size() - 1;
    }

    int bend(int place, int length) {
        if (!in(place, 0, 999) || !in(length, 1, 99) || bends.containsKey(place)) {
            return -1;
        }
        if (bends.size() == 6) {
            return -3;
        }
        bends.put(place, length);
        return bends.size();
    }

    int speed(int v) {
        if (!in(v, 1, 99)) {
            return -1;
        }
        int was = speed;
        speed = v;
        return was;
    }

    int far(int x, int y) {
        if (!in(x, 0, 999) || !in(y, 0, 999)) {
            return -1;
        }
        int sum = 0;
        for (int p = Math.min(x, y) + 1; p <= Math.max(x, y); p++) {
            sum += 1 + bends.getOrDefault(p, 0);
        }
        return sum;
    }

    int heard(int boat, int i, int place) {
        if (!in(boat, 0, boats.size() - 1) || !in(i, 0, 99) || !in(place, 0, 999)) {
            return -1;
        }
        return i + boats.get(boat)[1] + far(boats.get(boat)[0], place) / speed;
    }

    int step(int a, int b, int what) {
        if (!in(a, 0, boats.size() - 1) || !in(b, 0, boats.size() - 1) || a == b || !in(what, 0, 3)) {
            return -1;
        }
        StringBuilder river = new StringBuilder();
        for (int p = 0; p < 1000; p++) {
            river.append(heard(a, 0, p) == heard(b, 0, p) ? 'x' : ' ');
        }
        String s = river.toString();
        int longest = 0;
        for (String piece : s.split(" ")) {
            longest = Math.max(longest, piece.length());
        }
        int first = s.indexOf('x');
        int last = s.lastIndexOf('x');
        return new int[] {s.replace(" ", "").length(), first < 0 ? -4 : first, last < 0 ? -4 : last, longest}[what];
    }

    int undo() {
        if (past.isEmpty()) {
            return -4;
        }
        Past p = past.removeLast();
        steam = p.steam;
        for (int w = 0; w < p.whistles.size(); w++) {
            whistles.set(w, p.whistles.get(w));
        }
        return past.size();
    }

    int sheet(int k, int lane, int n) {
        if (!in(k, 0, 3) || !in(lane, 0, 2) || n > 60) {
            return -1;
        }
        if (n < 0) {
            return -14;
        }
        sheets[k] = lane == 0 ? new byte[n] : lane == 1 ? (Object) new short[n] : new int[n];
        return 1;
    }

    int lay(int k, int i, int v) {
        if (!in(k, 0, 3)) {
            return -1;
        }
        if (sheets[k] == null) {
            return -11;
        }
        if (!in(i, 0, cells(sheets[k]) - 1)) {
            return -12;
        }
        if (sheets[k] instanceof byte[] row) {
            row[i] = (byte) v;
        } else if (sheets[k] instanceof short[] row) {
            row[i] = (short) v;
        } else if (sheets[k] instanceof int[] row) {
            row[i] = v;
        }
        return 1;
    }

    int scan(int k, int lane, int f, int n) {
        if (!in(k, 0, 3) || !in(lane, 0, 2) || !in(n, 0, 12)) {
            return -1;
        }
        if (sheets[k] == null) {
            return -11;
        }
        if (laneOf(sheets[k]) != lane) {
            return -13;
        }
        List<Whistle> before = new ArrayList<>(whistles);
        for (int j = 0; j < n; j++) {
            long from = (long) f + 4L * j;
            int answer = -12;
            if (from >= 0 && from + 3 < cells(sheets[k])) {
                Object s = sheets[k];
                int c = (int) from;
                answer = whistle(cell(s, c), cell(s, c + 1), cell(s, c + 2), cell(s, c + 3) != 0);
                answer = answer < 0 ? answer - 20 : answer;
            }
            if (answer < 0) {
                whistles = before;
                return answer;
            }
        }
        return whistles.size();
    }

    int count(int what) {
        int cracked = 0;
        for (Whistle w : whistles) {
            cracked += w.crack != 0 ? 1 : 0;
        }
        int[] all = {whistles.size(), tunes.size(), boats.size(), bends.size(), leaking().size(), cracked, past.size(),
            tape.length(), sheets[0] == null ? -4 : cells(sheets[0])};
        return in(what, 0, 8) ? all[what] : -1;
    }
}
