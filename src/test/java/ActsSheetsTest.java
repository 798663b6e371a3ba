/** Promises 33 to 37. */
public final class ActsSheetsTest {
    private static final Check CHECK = new Check();

    public static void main(String[] args) {
        undo();
        undoKinds();
        undoTen();
        sheet();
        lay();
        scan();
        scanRefused();
        count();
        CHECK.finish();
    }

    private static void undo() {
        SteamTunes x = new SteamTunes();
        CHECK.due("nothing to undo", x.undo(), SteamTunes.NONE);
        x.fire(5);
        x.fire(-1);
        CHECK.due("one", x.undo(), 0);
        CHECK.due("fire is back", x.boiler(2), 3);
        CHECK.due("no more", x.undo(), SteamTunes.NONE);
    }

    private static void undoKinds() {
        SteamTunes x = new SteamTunes();
        x.whistle(0, 4, 10, false);
        x.whistle(0, 6, 10, false);
        Check.tune(x, "a b");
        x.fire(9);
        x.water(100);
        x.valve(120);
        x.pressure(50);
        x.stem(0, 11);
        x.crack(0, 12);
        x.leak(0, true);
        x.beat(1);
        x.play(0, 0);
        x.tuneAll(90);
        CHECK.due("tuneAll", x.told(0, 4), -2);
        CHECK.due("ten", x.count(6), 10);
        int after = x.boiler(0);
        CHECK.due("undo tuneAll", x.undo(), 9);
        CHECK.due("stem 0", x.told(0, 4), 11);
        CHECK.due("stem 1", x.told(1, 4), 0);
        CHECK.due("pressure stays", x.boiler(0), after);
        CHECK.due("undo play", x.undo(), 8);
        CHECK.due("64 behind the beat", x.boiler(0), 64);
        CHECK.due("water behind the beat", x.boiler(1), 1096);
        CHECK.due("undo beat", x.undo(), 7);
        CHECK.due("pressure 50", x.boiler(0), 50);
        CHECK.due("water 1100", x.boiler(1), 1100);
        CHECK.due("undo leak", x.undo(), 6);
        CHECK.due("no leak", x.told(0, 6), 0);
        CHECK.due("undo crack", x.undo(), 5);
        CHECK.due("no crack", x.told(0, 5), 0);
        CHECK.due("undo stem", x.undo(), 4);
        CHECK.due("no stem", x.told(0, 4), 0);
        CHECK.due("undo pressure", x.undo(), 3);
        CHECK.due("pressure 100", x.boiler(0), 100);
        x.pressure(120);
        CHECK.due("undo another pressure", x.undo(), 3);
        CHECK.due("undo valve", x.undo(), 2);
        CHECK.due("valve 150", x.boiler(3), 150);
        CHECK.due("undo water", x.undo(), 1);
        CHECK.due("water 1000", x.boiler(1), 1000);
        CHECK.due("undo fire", x.undo(), 0);
        CHECK.due("fire 3", x.boiler(2), 3);
        SteamTunes y = new SteamTunes();
        y.pressure(140);
        y.valve(100);
        y.undo();
        CHECK.due("the pressure that the valve cut is back", y.boiler(0), 140);
    }

    private static void undoTen() {
        SteamTunes x = new SteamTunes();
        for (int i = 1; i <= 12; i++) {
            x.pressure(i);
        }
        CHECK.due("the latest 10", x.count(6), 10);
        for (int i = 9; i >= 0; i--) {
            CHECK.due("undo, more " + i, x.undo(), i);
        }
        CHECK.due("as it was behind the second", x.boiler(0), 2);
        CHECK.due("the first two can not be", x.undo(), SteamTunes.NONE);
        x.whistle(0, 1, 0, false);
        x.stem(0, 5);
        x.undo();
        CHECK.due("a later whistle", x.told(0, 4), 0);
        x.boat(1, 1);
        x.bend(1, 1);
        x.speed(5);
        x.sheet(0, 0, 1);
        x.lay(0, 0, 1);
        x.feed(0);
        x.end(0);
        CHECK.due("these are no acts", x.count(6), 0);
    }

    private static void sheet() {
        SteamTunes x = new SteamTunes();
        CHECK.due("k -1", x.sheet(-1, 0, 1), -1);
        CHECK.due("k 4", x.sheet(4, 0, 1), -1);
        CHECK.due("lane -1", x.sheet(0, -1, 1), -1);
        CHECK.due("lane 3", x.sheet(0, 3, 1), -1);
        CHECK.due("n 61", x.sheet(0, 0, 61), -1);
        CHECK.due("n max", x.sheet(0, 0, Integer.MAX_VALUE), -1);
        CHECK.due("n -1", x.sheet(0, 0, -1), -14);
        CHECK.due("n min", x.sheet(0, 0, Integer.MIN_VALUE), -14);
        CHECK.due("bad ahead of the size", x.sheet(0, 3, -1), -1);
        CHECK.due("still nothing", x.count(8), SteamTunes.NONE);
        CHECK.due("n 0", x.sheet(0, 2, 0), 1);
        CHECK.due("0 cells", x.count(8), 0);
        CHECK.due("n 60", x.sheet(0, 2, 60), 1);
        CHECK.due("60 cells", x.count(8), 60);
        x.lay(0, 0, 7);
        CHECK.due("a fault leaves it", x.sheet(0, 2, -5), -14);
        CHECK.due("60 cells still", x.count(8), 60);
        x.lay(0, 1, 7);
        x.lay(0, 2, 7);
        CHECK.due("its cells still", x.scan(0, 2, 0, 1), 1);
        x.sheet(0, 2, 60);
        CHECK.due("a new row has cells 0: draw 0 is bad", x.scan(0, 2, 0, 1), -21);
    }

    private static void lay() {
        SteamTunes x = new SteamTunes();
        CHECK.due("nothing", x.lay(3, 0, 1), -11);
        CHECK.due("k 4", x.lay(4, 0, 1), -1);
        CHECK.due("k -1", x.lay(-1, 0, 1), -1);
        x.sheet(3, 0, 4);
        CHECK.due("i -1", x.lay(3, -1, 1), -12);
        CHECK.due("i 4", x.lay(3, 4, 1), -12);
        CHECK.due("i 3", x.lay(3, 3, 256), 1);
        x.lay(3, 0, 256 + 50);
        x.lay(3, 1, -256 + 9);
        x.lay(3, 2, 512 + 20);
        CHECK.due("bytes: the lowest bits", x.scan(3, 0, 0, 1), 1);
        CHECK.due("note 50", x.told(0, 0), 50);
        CHECK.due("draw 9", x.told(0, 1), 9);
        CHECK.due("slope 20", x.told(0, 2), 20);
        CHECK.due("256 is 0 as a byte: not stuck", x.told(0, 3), 0);
        x.lay(3, 0, 200);
        CHECK.due("200 is below 0 as a byte", x.scan(3, 0, 0, 1), -21);
        x.sheet(2, 1, 4);
        x.lay(2, 0, 65536 + 3600);
        x.lay(2, 1, 65537);
        x.lay(2, 3, 256);
        CHECK.due("shorts: the lowest bits", x.scan(2, 1, 0, 1), 2);
        CHECK.due("note 3600", x.told(1, 0), 3600);
        CHECK.due("256 is not 0 as a short: stuck", x.told(1, 3), 1);
        x.lay(2, 0, 32768);
        CHECK.due("32768 is below 0 as a short", x.scan(2, 1, 0, 1), -21);
        x.sheet(1, 2, 4);
        x.lay(1, 0, 65536);
        x.lay(1, 1, 1);
        CHECK.due("ints keep all", x.scan(1, 2, 0, 1), -21);
        x.sheet(1, 2, 0);
        CHECK.due("no cells", x.lay(1, 0, 0), -12);
    }

    private static void row(SteamTunes x, int k, int... cells) {
        x.sheet(k, 2, cells.length);
        for (int i = 0; i < cells.length; i++) {
            x.lay(k, i, cells[i]);
        }
    }

    private static void scan() {
        SteamTunes x = new SteamTunes();
        row(x, 0, 77, 10, 1, 2, 0, 20, 3, 4, -1, 30, 5, 6);
        CHECK.due("two", x.scan(0, 2, 1, 2), 2);
        CHECK.due("note 0", x.told(0, 0), 10);
        CHECK.due("draw 0", x.told(0, 1), 1);
        CHECK.due("slope 0", x.told(0, 2), 2);
        CHECK.due("stuck 0", x.told(0, 3), 0);
        CHECK.due("note 1", x.told(1, 0), 20);
        CHECK.due("slope 1", x.told(1, 2), 4);
        CHECK.due("stuck 1", x.told(1, 3), 1);
        CHECK.due("none", x.scan(0, 2, 1, 0), 2);
        CHECK.due("none from anywhere", x.scan(0, 2, -99, 0), 2);
        CHECK.due("the third is cut off", x.scan(0, 2, 1, 3), -12);
        CHECK.due("then none came", x.count(0), 2);
        CHECK.due("no act", x.count(6), 0);
    }

    private static void scanRefused() {
        SteamTunes x = new SteamTunes();
        CHECK.due("nothing", x.scan(0, 2, 0, 1), -11);
        CHECK.due("nothing, though none are read", x.scan(0, 2, 0, 0), -11);
        row(x, 0, 1, 1, 1, 1, 2, 2, 2, 2, 3, 0, 3, 3);
        CHECK.due("k 4", x.scan(4, 2, 0, 1), -1);
        CHECK.due("k -1", x.scan(-1, 2, 0, 1), -1);
        CHECK.due("lane 3", x.scan(0, 3, 0, 1), -1);
        CHECK.due("lane -1", x.scan(0, -1, 0, 1), -1);
        CHECK.due("n 13", x.scan(0, 2, 0, 13), -1);
        CHECK.due("n -1", x.scan(0, 2, 0, -1), -1);
        CHECK.due("another lane", x.scan(0, 1, 0, 1), -13);
        CHECK.due("another lane, though none are read", x.scan(0, 0, 0, 0), -13);
        CHECK.due("f -1", x.scan(0, 2, -1, 1), -12);
        CHECK.due("f 9", x.scan(0, 2, 9, 1), -12);
        CHECK.due("f max", x.scan(0, 2, Integer.MAX_VALUE, 12), -12);
        CHECK.due("f max less 2", x.scan(0, 2, Integer.MAX_VALUE - 2, 12), -12);
        CHECK.due("f min", x.scan(0, 2, Integer.MIN_VALUE, 12), -12);
        CHECK.due("the third is bad, ahead of the index of the fourth", x.scan(0, 2, 0, 4), -21);
        CHECK.due("then none came", x.count(0), 0);
        for (int w = 0; w < 11; w++) {
            x.whistle(0, 1, 0, false);
        }
        CHECK.due("the 13th is too many", x.scan(0, 2, 0, 2), -23);
        CHECK.due("then none came, not even the 12th", x.count(0), 11);
        CHECK.due("the 12th alone", x.scan(0, 2, 0, 1), 12);
        CHECK.due("full", x.scan(0, 2, 0, 1), -23);
        CHECK.due("bad ahead of full", x.scan(0, 2, 8, 1), -21);
        CHECK.due("the index ahead of full", x.scan(0, 2, 10, 1), -12);
    }

    private static void count() {
        SteamTunes x = new SteamTunes();
        x.whistle(0, 1, 0, false);
        x.whistle(0, 1, 0, false);
        x.whistle(0, 1, 0, false);
        Check.tune(x, "a");
        x.boat(0, 0);
        x.boat(0, 0);
        x.bend(0, 1);
        x.leak(2, true);
        x.crack(0, -1);
        x.crack(1, 1);
        x.feed(0);
        x.sheet(0, 0, 33);
        x.sheet(1, 0, 34);
        int[] want = {3, 1, 2, 1, 1, 2, 3, 8, 33};
        for (int what = 0; what < 9; what++) {
            CHECK.due("count(" + what + ")", x.count(what), want[what]);
        }
        CHECK.due("count(-1)", x.count(-1), -1);
        CHECK.due("count(9)", x.count(9), -1);
    }
}
