/** Promises 8 to 16. */
public final class WhistlesTest {
    private static final Check CHECK = new Check();

    public static void main(String[] args) {
        whistle();
        told();
        stem();
        crack();
        leak();
        pitch();
        holds();
        tuneAll();
        agree();
        CHECK.finish();
    }

    private static void whistle() {
        SteamTunes x = new SteamTunes();
        CHECK.due("note -1", x.whistle(-1, 1, 0, false), -1);
        CHECK.due("note 3601", x.whistle(3601, 1, 0, false), -1);
        CHECK.due("draw 0", x.whistle(0, 0, 0, false), -1);
        CHECK.due("draw 10", x.whistle(0, 10, 0, false), -1);
        CHECK.due("slope -1", x.whistle(0, 1, -1, false), -1);
        CHECK.due("slope 21", x.whistle(0, 1, 21, false), -1);
        CHECK.due("none came", x.count(0), 0);
        CHECK.due("least", x.whistle(0, 1, 0, false), 0);
        CHECK.due("greatest", x.whistle(3600, 9, 20, true), 1);
        for (int w = 2; w < 12; w++) {
            CHECK.due("number " + w, x.whistle(0, 1, 0, false), w);
        }
        CHECK.due("a 13th", x.whistle(0, 1, 0, false), SteamTunes.FULL);
        CHECK.due("bad ahead of full", x.whistle(0, 0, 0, false), -1);
        CHECK.due("no act", x.count(6), 0);
    }

    private static void told() {
        SteamTunes x = new SteamTunes();
        CHECK.due("no such whistle", x.told(0, 0), -10000);
        x.whistle(3600, 9, 20, true);
        x.whistle(7, 2, 3, false);
        x.stem(1, -5);
        x.crack(1, -6);
        x.leak(1, true);
        int[] first = {3600, 9, 20, 1, 0, 0, 0};
        int[] second = {7, 2, 3, 0, -5, -6, 1};
        for (int what = 0; what < 7; what++) {
            CHECK.due("told(0, " + what + ")", x.told(0, what), first[what]);
            CHECK.due("told(1, " + what + ")", x.told(1, what), second[what]);
        }
        CHECK.due("told(0, 7)", x.told(0, 7), -10000);
        CHECK.due("told(0, -1)", x.told(0, -1), -10000);
        CHECK.due("told(2, 0)", x.told(2, 0), -10000);
        CHECK.due("told(-1, 0)", x.told(-1, 0), -10000);
        CHECK.due("told(max, 0)", x.told(Integer.MAX_VALUE, 0), -10000);
    }

    private static void stem() {
        SteamTunes x = new SteamTunes();
        x.whistle(0, 1, 0, false);
        x.whistle(0, 1, 0, true);
        CHECK.due("stem(0, 101)", x.stem(0, 101), -10000);
        CHECK.due("stem(0, -101)", x.stem(0, -101), -10000);
        CHECK.due("stem(2, 0)", x.stem(2, 0), -10000);
        CHECK.due("stem(-1, 0)", x.stem(-1, 0), -10000);
        CHECK.due("stuck", x.stem(1, 0), -10002);
        CHECK.due("bad ahead of stuck", x.stem(1, 101), -10000);
        CHECK.due("no acts", x.count(6), 0);
        CHECK.due("stem(0, -100)", x.stem(0, -100), 0);
        CHECK.due("stem(0, 100)", x.stem(0, 100), -100);
        CHECK.due("acts", x.count(6), 2);
    }

    private static void crack() {
        SteamTunes x = new SteamTunes();
        x.whistle(0, 1, 0, true);
        CHECK.due("crack(0, 201)", x.crack(0, 201), -10000);
        CHECK.due("crack(0, -201)", x.crack(0, -201), -10000);
        CHECK.due("crack(1, 0)", x.crack(1, 0), -10000);
        CHECK.due("crack(-1, 0)", x.crack(-1, 0), -10000);
        CHECK.due("crack(0, -200), though it is stuck", x.crack(0, -200), 0);
        CHECK.due("crack(0, 200)", x.crack(0, 200), -200);
        CHECK.due("cracked", x.count(5), 1);
        CHECK.due("crack(0, 0)", x.crack(0, 0), 200);
        CHECK.due("cracked no more", x.count(5), 0);
        CHECK.due("acts", x.count(6), 3);
    }

    private static void leak() {
        SteamTunes x = new SteamTunes();
        CHECK.due("leak(0)", x.leak(0, false), -1);
        x.whistle(0, 6, 0, false);
        x.whistle(0, 4, 0, false);
        CHECK.due("leak(-1)", x.leak(-1, true), -1);
        CHECK.due("leak(2)", x.leak(2, true), -1);
        CHECK.due("leak(1, true)", x.leak(1, true), 0);
        CHECK.due("leak(1, true) again", x.leak(1, true), 1);
        CHECK.due("leak(0, true)", x.leak(0, true), 0);
        CHECK.due("two leak", x.count(4), 2);
        CHECK.due("drawn", x.boiler(5), 5);
        CHECK.due("leak(1, false)", x.leak(1, false), 1);
        CHECK.due("drawn by one", x.boiler(5), 3);
        CHECK.due("acts", x.count(6), 4);
    }

    private static void pitch() {
        SteamTunes x = new SteamTunes();
        x.whistle(0, 1, 7, false);
        CHECK.due("pitch at 100", x.pitch(0, 100), 0);
        CHECK.due("7 divided down by 10", x.pitch(0, 101), 0);
        CHECK.due("-7 divided down by 10", x.pitch(0, 99), -1);
        CHECK.due("pitch at 0", x.pitch(0, 0), -70);
        CHECK.due("pitch at 200, above the valve", x.pitch(0, 200), 70);
        x.stem(0, 30);
        x.crack(0, -50);
        CHECK.due("with stem and crack", x.pitch(0, 103), -18);
        CHECK.due("pitch(0, -1)", x.pitch(0, -1), -10000);
        CHECK.due("pitch(0, 201)", x.pitch(0, 201), -10000);
        CHECK.due("pitch(1, 100)", x.pitch(1, 100), -10000);
        CHECK.due("pitch(-1, 100)", x.pitch(-1, 100), -10000);
        CHECK.due("no acts but two", x.count(6), 2);
    }

    private static void holds() {
        SteamTunes x = new SteamTunes();
        x.whistle(0, 1, 10, false);
        x.whistle(0, 1, 0, false);
        CHECK.due("off at the valve is 50", x.holds(0, 49), SteamTunes.NONE);
        CHECK.due("from -50 on", x.holds(0, 50), 50);
        CHECK.due("from -99 on", x.holds(0, 99), 1);
        CHECK.due("all the way", x.holds(0, 400), 0);
        CHECK.due("no slope", x.holds(1, 0), 0);
        x.stem(0, -50);
        CHECK.due("at the valve alone", x.holds(0, 0), 150);
        CHECK.due("a little below", x.holds(0, 3), 147);
        x.valve(160);
        CHECK.due("another valve", x.holds(0, 3), SteamTunes.NONE);
        CHECK.due("another valve, 10", x.holds(0, 10), 140);
        CHECK.due("holds(0, -1)", x.holds(0, -1), -1);
        CHECK.due("holds(0, 401)", x.holds(0, 401), -1);
        CHECK.due("holds(2, 0)", x.holds(2, 0), -1);
        CHECK.due("holds(-1, 0)", x.holds(-1, 0), -1);
    }

    private static void tuneAll() {
        SteamTunes x = new SteamTunes();
        CHECK.due("no whistles", x.tuneAll(0), 0);
        CHECK.due("an act all the same", x.count(6), 1);
        CHECK.due("tuneAll(-1)", x.tuneAll(-1), -1);
        CHECK.due("tuneAll(201)", x.tuneAll(201), -1);
        x.whistle(0, 1, 10, false);
        x.whistle(0, 1, 20, false);
        x.whistle(0, 1, 10, true);
        x.whistle(0, 1, 0, true);
        x.crack(0, 30);
        CHECK.due("stuck off by 60", x.tuneAll(160), 2);
        CHECK.due("crack and steam", x.told(0, 4), -90);
        CHECK.due("as near as may be", x.told(1, 4), -100);
        CHECK.due("stuck", x.told(2, 4), 0);
        CHECK.due("low steam", x.tuneAll(0), 2);
        CHECK.due("up to 100", x.told(1, 4), 100);
        CHECK.due("less the crack", x.told(0, 4), 70);
        x.crack(0, -200);
        CHECK.due("too far down", x.tuneAll(100), 1);
        CHECK.due("stem at its end", x.told(0, 4), 100);
        CHECK.due("back in the middle", x.told(1, 4), 0);
    }

    private static void agree() {
        SteamTunes x = new SteamTunes();
        CHECK.due("no whistles", x.agree(0), SteamTunes.NONE);
        CHECK.due("no whistles, 2", x.agree(2), SteamTunes.NONE);
        CHECK.due("bad ahead of none", x.agree(3), -1);
        CHECK.due("agree(-1)", x.agree(-1), -1);
        x.whistle(0, 1, 1, false);
        CHECK.due("of 100 to 109 the greatest", x.agree(0), 109);
        CHECK.due("off 0", x.agree(1), 0);
        CHECK.due("one", x.agree(2), 1);
        x.whistle(0, 1, 20, false);
        x.stem(1, 40);
        // 20 wants 80, the slope of 1 is -2 there; one step higher both are off by 2.
        CHECK.due("two whistles", x.agree(0), 81);
        CHECK.due("their off", x.agree(1), 2);
        CHECK.due("none of them at 0", x.agree(2), 0);
        x.valve(70);
        CHECK.due("not above the valve", x.agree(0), 70);
        CHECK.due("off 20 there", x.agree(1), 20);
    }
}
