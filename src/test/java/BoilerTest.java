/** Promises 1 to 7. */
public final class BoilerTest {
    private static final Check CHECK = new Check();

    public static void main(String[] args) {
        newObject();
        fire();
        water();
        valve();
        pressure();
        boiler();
        beat();
        beatWithoutWater();
        valveBlows();
        CHECK.finish();
    }

    private static void newObject() {
        SteamTunes x = new SteamTunes();
        CHECK.due("new: pressure", x.boiler(0), 100);
        CHECK.due("new: water", x.boiler(1), 1000);
        CHECK.due("new: fire", x.boiler(2), 3);
        CHECK.due("new: valve", x.boiler(3), 150);
        CHECK.due("new: blows", x.boiler(4), 0);
        CHECK.due("new: drawn", x.boiler(5), 0);
        for (int what = 0; what <= 7; what++) {
            CHECK.due("new: count " + what, x.count(what), 0);
        }
        CHECK.due("new: sheet 0", x.count(8), SteamTunes.NONE);
        for (int k = 0; k < 4; k++) {
            CHECK.due("new: sheet " + k, x.lay(k, 0, 0), -11);
        }
        CHECK.due("new: fault", x.fault(), 0);
        CHECK.due("new: speed", x.speed(20), 10);
        CHECK.due("new: undo", x.undo(), SteamTunes.NONE);
    }

    private static void fire() {
        SteamTunes x = new SteamTunes();
        CHECK.due("fire(-1)", x.fire(-1), -1);
        CHECK.due("fire(10)", x.fire(10), -1);
        CHECK.due("fire(0)", x.fire(0), 3);
        CHECK.due("fire(9)", x.fire(9), 0);
        CHECK.due("fire(9) again", x.fire(9), 9);
        CHECK.due("acts of fire", x.count(6), 3);
    }

    private static void water() {
        SteamTunes x = new SteamTunes();
        CHECK.due("water(0)", x.water(0), -1);
        CHECK.due("water(-1)", x.water(-1), -1);
        CHECK.due("water(10000)", x.water(10000), -1);
        CHECK.due("water(max)", x.water(Integer.MAX_VALUE), -1);
        CHECK.due("water(1)", x.water(1), 1001);
        CHECK.due("water(8998)", x.water(8998), 9999);
        CHECK.due("water(9999)", x.water(9999), 9999);
        CHECK.due("acts of water", x.count(6), 3);
    }

    private static void valve() {
        SteamTunes x = new SteamTunes();
        CHECK.due("valve(49)", x.valve(49), -1);
        CHECK.due("valve(201)", x.valve(201), -1);
        CHECK.due("valve(200)", x.valve(200), 150);
        CHECK.due("valve(100)", x.valve(100), 200);
        CHECK.due("pressure at the valve stays", x.boiler(0), 100);
        CHECK.due("valve(50)", x.valve(50), 100);
        CHECK.due("pressure above it becomes it", x.boiler(0), 50);
        CHECK.due("without a blow", x.boiler(4), 0);
        CHECK.due("water stays", x.boiler(1), 1000);
    }

    private static void pressure() {
        SteamTunes x = new SteamTunes();
        CHECK.due("pressure(-1)", x.pressure(-1), -1);
        CHECK.due("pressure(151)", x.pressure(151), -1);
        CHECK.due("pressure(150)", x.pressure(150), 100);
        CHECK.due("pressure(0)", x.pressure(0), 150);
        x.valve(200);
        CHECK.due("pressure(200)", x.pressure(200), 0);
        CHECK.due("pressure(201)", x.pressure(201), -1);
    }

    private static void boiler() {
        SteamTunes x = new SteamTunes();
        x.whistle(0, 9, 0, false);
        x.whistle(0, 1, 0, false);
        x.whistle(0, 4, 0, false);
        x.leak(0, true);
        x.leak(1, true);
        CHECK.due("half of 9 and of 1, divided down", x.boiler(5), 4);
        x.leak(2, true);
        CHECK.due("and half of 4", x.boiler(5), 6);
        CHECK.due("boiler(-1)", x.boiler(-1), -1);
        CHECK.due("boiler(6)", x.boiler(6), -1);
    }

    private static void beat() {
        SteamTunes x = new SteamTunes();
        CHECK.due("no whistles, no chord", x.beat(0), 0);
        CHECK.due("fire alone", x.boiler(0), 106);
        CHECK.due("a whistle that there is not", x.beat(1), -1);
        x.whistle(100, 9, 10, false);
        x.whistle(200, 7, 20, false);
        CHECK.due("beat(4)", x.beat(4), -1);
        CHECK.due("beat(-1)", x.beat(-1), -1);
        CHECK.due("beat(min)", x.beat(Integer.MIN_VALUE), -1);
        CHECK.due("refused beats are no acts", x.count(6), 1);
        CHECK.due("the greatest of 6 and 12", x.beat(3), 12);
        CHECK.due("106 and 6 less 16", x.boiler(0), 96);
        CHECK.due("water less 16", x.boiler(1), 984);
        CHECK.due("off below 0 without sign", x.beat(2), 8);
        CHECK.due("96 and 6 less 7", x.boiler(0), 95);
        x.leak(0, true);
        x.leak(1, true);
        CHECK.due("one sounds, the other leaks", x.beat(2), 10);
        CHECK.due("95 and 6 less 7 and 4", x.boiler(0), 90);
        CHECK.due("water less 11", x.boiler(1), 966);
        x.pressure(3);
        x.fire(0);
        x.beat(3);
        CHECK.due("0 at least", x.boiler(0), 0);
        SteamTunes y = new SteamTunes();
        for (int w = 0; w < 12; w++) {
            y.whistle(0, 1, w, false);
        }
        y.pressure(90);
        CHECK.due("twelve at once", y.beat(4095), 11);
        CHECK.due("twelve draw 12", y.boiler(1), 988);
    }

    private static SteamTunes withWater(int left) {
        SteamTunes x = new SteamTunes();
        for (int w = 0; w < 12; w++) {
            x.whistle(0, 9, 0, false);
        }
        for (int i = 0; i < 9; i++) {
            x.beat(4095);
        }
        // 28 are left; whistles of 9 and one leak of 4 bring it down further.
        x.beat(3);
        x.water(left);
        return x;
    }

    private static void beatWithoutWater() {
        SteamTunes x = withWater(8);
        CHECK.due("water 18", x.boiler(1), 18);
        x.pressure(50);
        CHECK.due("27 drawn of 18", x.beat(7), SteamTunes.DRY);
        CHECK.due("nothing changed by it", x.boiler(1), 18);
        CHECK.due("pressure as it was", x.boiler(0), 50);
        int acts = x.count(6);
        CHECK.due("dry is no act", acts, 10);
        CHECK.due("18 drawn of 18", x.beat(3), 0);
        CHECK.due("no water", x.boiler(1), 0);
        CHECK.due("no heat without water", x.boiler(0), 32);
        CHECK.due("a beat of nothing", x.beat(0), 0);
        CHECK.due("no heat again", x.boiler(0), 32);
        CHECK.due("a chord is dry", x.beat(1), SteamTunes.DRY);
        x.leak(5, true);
        CHECK.due("a leak is dry", x.beat(0), SteamTunes.DRY);
        CHECK.due("a chord of what is not is bad ahead of dry", x.beat(4096), -1);
    }

    private static void valveBlows() {
        SteamTunes x = new SteamTunes();
        x.fire(9);
        x.pressure(132);
        x.beat(0);
        CHECK.due("up to the valve", x.boiler(0), 150);
        CHECK.due("no blow at the valve", x.boiler(4), 0);
        x.pressure(133);
        x.beat(0);
        CHECK.due("at the valve", x.boiler(0), 150);
        CHECK.due("a blow", x.boiler(4), 1);
        CHECK.due("water less by what is above", x.boiler(1), 999);
        x.beat(0);
        CHECK.due("a second blow", x.boiler(4), 2);
        CHECK.due("water less by 18", x.boiler(1), 981);
        x.undo();
        CHECK.due("undone blows are none", x.boiler(4), 1);
        CHECK.due("water is back", x.boiler(1), 999);
        SteamTunes y = withWater(1);
        y.beat(1);
        y.water(5);
        y.fire(9);
        y.pressure(150);
        CHECK.due("water 7", y.boiler(1), 7);
        y.beat(0);
        CHECK.due("a blow takes no more than there is", y.boiler(1), 0);
        y.beat(0);
        CHECK.due("without water no heat, no blow", y.boiler(4), 1);
    }
}
