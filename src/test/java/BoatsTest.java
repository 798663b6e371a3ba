/** Promises 27 to 32. */
public final class BoatsTest {
    private static final Check CHECK = new Check();

    public static void main(String[] args) {
        boat();
        bend();
        speed();
        far();
        heard();
        step();
        CHECK.finish();
    }

    private static void boat() {
        SteamTunes x = new SteamTunes();
        CHECK.due("boat(-1, 0)", x.boat(-1, 0), -1);
        CHECK.due("boat(1000, 0)", x.boat(1000, 0), -1);
        CHECK.due("boat(0, -1)", x.boat(0, -1), -1);
        CHECK.due("boat(0, 100)", x.boat(0, 100), -1);
        CHECK.due("boat(0, 0)", x.boat(0, 0), 0);
        CHECK.due("boat(999, 99)", x.boat(999, 99), 1);
        CHECK.due("the same place", x.boat(999, 99), 2);
        CHECK.due("a 4th", x.boat(5, 5), 3);
        CHECK.due("a 5th", x.boat(5, 5), SteamTunes.FULL);
        CHECK.due("bad ahead of full", x.boat(5, 100), -1);
        CHECK.due("boats", x.count(2), 4);
        CHECK.due("no acts", x.count(6), 0);
    }

    private static void bend() {
        SteamTunes x = new SteamTunes();
        CHECK.due("bend(-1, 1)", x.bend(-1, 1), -1);
        CHECK.due("bend(1000, 1)", x.bend(1000, 1), -1);
        CHECK.due("bend(0, 0)", x.bend(0, 0), -1);
        CHECK.due("bend(0, 100)", x.bend(0, 100), -1);
        CHECK.due("bend(0, 1)", x.bend(0, 1), 1);
        CHECK.due("at that place", x.bend(0, 2), -1);
        for (int i = 2; i <= 6; i++) {
            CHECK.due("bend " + i, x.bend(1001 - i, 99), i);
        }
        CHECK.due("a 7th", x.bend(500, 1), SteamTunes.FULL);
        CHECK.due("bad ahead of full", x.bend(999, 1), -1);
        CHECK.due("bends", x.count(3), 6);
    }

    private static void speed() {
        SteamTunes x = new SteamTunes();
        CHECK.due("speed(0)", x.speed(0), -1);
        CHECK.due("speed(-1)", x.speed(-1), -1);
        CHECK.due("speed(100)", x.speed(100), -1);
        CHECK.due("speed(99)", x.speed(99), 10);
        CHECK.due("speed(1)", x.speed(1), 99);
        CHECK.due("no act", x.count(6), 0);
    }

    private static void far() {
        SteamTunes x = new SteamTunes();
        x.bend(0, 7);
        x.bend(500, 20);
        x.bend(999, 30);
        CHECK.due("a place from itself", x.far(500, 500), 0);
        CHECK.due("up to the greater", x.far(499, 500), 21);
        CHECK.due("the same back", x.far(500, 499), 21);
        CHECK.due("not at the less", x.far(500, 501), 1);
        CHECK.due("all but that at 0", x.far(0, 999), 1049);
        CHECK.due("far(-1, 0)", x.far(-1, 0), -1);
        CHECK.due("far(0, -1)", x.far(0, -1), -1);
        CHECK.due("far(1000, 0)", x.far(1000, 0), -1);
        CHECK.due("far(0, 1000)", x.far(0, 1000), -1);
    }

    private static void heard() {
        SteamTunes x = new SteamTunes();
        CHECK.due("no boat", x.heard(0, 0, 0), -1);
        x.boat(100, 5);
        CHECK.due("at the boat", x.heard(0, 0, 100), 5);
        CHECK.due("9 off", x.heard(0, 0, 109), 5);
        CHECK.due("10 off", x.heard(0, 7, 110), 13);
        x.bend(105, 15);
        CHECK.due("behind the bend", x.heard(0, 99, 105), 106);
        x.speed(99);
        CHECK.due("faster", x.heard(0, 0, 999), 14);
        CHECK.due("i -1", x.heard(0, -1, 0), -1);
        CHECK.due("i 100", x.heard(0, 100, 0), -1);
        CHECK.due("place -1", x.heard(0, 0, -1), -1);
        CHECK.due("place 1000", x.heard(0, 0, 1000), -1);
        CHECK.due("boat -1", x.heard(-1, 0, 0), -1);
        CHECK.due("boat 1", x.heard(1, 0, 0), -1);
    }

    private static void step() {
        SteamTunes x = new SteamTunes();
        x.boat(0, 0);
        CHECK.due("one and the same", x.step(0, 0, 0), -1);
        CHECK.due("no such boat", x.step(0, 1, 0), -1);
        x.boat(999, 0);
        x.boat(0, 1);
        x.boat(0, 0);
        CHECK.due("what 4", x.step(0, 1, 4), -1);
        CHECK.due("what -1", x.step(0, 1, -1), -1);
        CHECK.due("boat -1", x.step(-1, 1, 0), -1);
        // In the middle it is 49 and 50 up to 499, 50 and 49 from 500 on.
        CHECK.due("from both ends", x.step(0, 1, 0), 0);
        CHECK.due("first: none", x.step(0, 1, 1), SteamTunes.NONE);
        CHECK.due("last: none", x.step(0, 1, 2), SteamTunes.NONE);
        CHECK.due("behind one another: none", x.step(0, 1, 3), 0);
        CHECK.due("a lag of 1 never", x.step(0, 2, 0), 0);
        CHECK.due("side by side", x.step(0, 3, 0), 1000);
        CHECK.due("side by side, first", x.step(3, 0, 1), 0);
        CHECK.due("side by side, last", x.step(0, 3, 2), 999);
        CHECK.due("side by side, behind one another", x.step(0, 3, 3), 1000);
        SteamTunes y = new SteamTunes();
        y.boat(0, 0);
        y.boat(5, 0);
        // Above 5 the tens agree in 5 of each 10 places: 5 to 9 and so on; below, both are 0.
        CHECK.due("5 apart", y.step(0, 1, 0), 505);
        CHECK.due("5 apart, first", y.step(0, 1, 1), 0);
        CHECK.due("5 apart, last", y.step(0, 1, 2), 999);
        CHECK.due("5 apart, behind one another", y.step(0, 1, 3), 10);
    }
}
