/** Tells all that can be seen of an object, so that two can be compared. The object is spent by it. */
final class Look {
    private static final int WHISTLES = 12, TUNES = 6, BOATS = 4, SHEETS = 4, LANES = 3;

    private final SteamTunes x;
    private final StringBuilder seen = new StringBuilder();

    private Look(SteamTunes x) {
        this.x = x;
    }

    static String at(SteamTunes x) {
        Look look = new Look(x);
        look.asks();
        look.sheets();
        look.acts();
        look.tape();
        return look.seen.toString();
    }

    private void see(int answer) {
        seen.append(answer).append(' ');
    }

    private void asks() {
        for (int what = 0; what <= 8; what++) {
            see(x.count(what));
            see(x.boiler(what));
        }
        for (int w = 0; w < WHISTLES; w++) {
            for (int what = 0; what <= 6; what++) {
                see(x.told(w, what));
            }
        }
        for (int t = 0; t < TUNES; t++) {
            for (int what = 0; what <= 3; what++) {
                see(x.tuneOf(t, what));
            }
            see(x.tuneOf(t, 10));
        }
        for (int boat = 0; boat < BOATS; boat++) {
            see(x.heard(boat, 0, 0));
            see(x.heard(boat, 0, 999));
        }
        see(x.far(0, 999));
        see(x.speed(10));
        see(x.fault());
    }

    private void sheets() {
        for (int k = 0; k < SHEETS; k++) {
            for (int lane = 0; lane < LANES; lane++) {
                see(x.scan(k, lane, 0, 0));
                see(x.scan(k, lane, 0, 1));
                see(x.scan(k, lane, 4, 1));
            }
        }
        for (int w = 0; w < WHISTLES; w++) {
            see(x.told(w, 0));
        }
    }

    private void acts() {
        for (int i = 0; i <= 10; i++) {
            see(x.undo());
            for (int what = 0; what <= 4; what++) {
                see(x.boiler(what));
            }
            see(x.count(4));
            see(x.count(5));
            see(x.told(0, 4));
        }
    }

    private void tape() {
        see(x.tune());
        see(x.fault());
        see(x.end(0));
    }
}
