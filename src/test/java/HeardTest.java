/** Promise 26. */
public final class HeardTest {
    private static final Check CHECK = new Check();
    private static final int GAP = -32768;

    public static void main(String[] args) {
        refused();
        faults();
        cracks();
        leakingKey();
        fewest();
        inPlaceOfNow();
        lanes();
        CHECK.finish();
    }

    /** Three whistles of slope 10, fire 2, a tune and a sheet of shorts with what was heard. */
    private static SteamTunes ashore(String text, int... cells) {
        SteamTunes x = new SteamTunes();
        x.whistle(1000, 4, 10, false);
        x.whistle(2000, 4, 10, false);
        x.whistle(3000, 8, 10, false);
        x.fire(2);
        Check.tune(x, text);
        x.sheet(0, 1, cells.length);
        for (int i = 0; i < cells.length; i++) {
            x.lay(0, i, cells[i]);
        }
        return x;
    }

    private static void refused() {
        SteamTunes x = ashore("a b", 1000, 2000);
        CHECK.due("t 1", x.blame(1, 0, 100, 0, 1, 0, 0), -1000);
        CHECK.due("t -1", x.blame(-1, 0, 100, 0, 1, 0, 0), -1000);
        CHECK.due("key 12", x.blame(0, 12, 100, 0, 1, 0, 0), -1000);
        CHECK.due("key -12", x.blame(0, -12, 100, 0, 1, 0, 0), -1000);
        CHECK.due("p -1", x.blame(0, 0, -1, 0, 1, 0, 0), -1000);
        CHECK.due("p above the valve", x.blame(0, 0, 151, 0, 1, 0, 0), -1000);
        CHECK.due("p at the valve", x.blame(0, 0, 150, 0, 1, 0, 0), 2);
        CHECK.due("k 4", x.blame(0, 0, 100, 4, 1, 0, 0), -1000);
        CHECK.due("k -1", x.blame(0, 0, 100, -1, 1, 0, 0), -1000);
        CHECK.due("lane 3", x.blame(0, 0, 100, 0, 3, 0, 0), -1000);
        CHECK.due("lane -1", x.blame(0, 0, 100, 0, -1, 0, 0), -1000);
        int[] wrong = {-1, 3, 19, 23, Integer.MIN_VALUE, Integer.MAX_VALUE};
        for (int what : wrong) {
            CHECK.due("what " + what, x.blame(0, 0, 100, 0, 1, 0, what), -1000);
        }
        CHECK.due("does not go", x.blame(0, 2, 100, 0, 1, 0, 0), -1002);
        CHECK.due("ahead of the sheet's faults", x.blame(0, 2, 100, 1, 1, 0, 0), -1002);
        CHECK.due("bad ahead of that", x.blame(0, 2, 100, 0, 1, 0, 3), -1000);
    }

    private static void faults() {
        SteamTunes x = ashore(". a . b .", 1000, GAP, 2000);
        CHECK.due("nothing", x.blame(0, 0, 100, 1, 0, 0, 0), -1011);
        CHECK.due("another lane", x.blame(0, 0, 100, 0, 2, 0, 0), -1013);
        CHECK.due("another lane ahead of the index", x.blame(0, 0, 100, 0, 2, 9, 0), -1013);
        CHECK.due("beats without a chord are not looked at", x.blame(0, 0, 100, 0, 1, -1, 0) >= 0 ? 1 : 0, 1);
        CHECK.due("cell 3", x.blame(0, 0, 100, 0, 1, 0, 0), -1012);
        CHECK.due("cell -1", x.blame(0, 0, 100, 0, 1, -2, 0), -1012);
        CHECK.due("f max", x.blame(0, 0, 100, 0, 1, Integer.MAX_VALUE, 0), -1012);
        CHECK.due("f min", x.blame(0, 0, 100, 0, 1, Integer.MIN_VALUE, 0), -1012);
        SteamTunes y = ashore("..", 0);
        CHECK.due("rests alone look at no cell", y.blame(0, 0, 100, 0, 1, 77, 0), 0);
        CHECK.due("but at the sheet", y.blame(0, 0, 100, 2, 1, 77, 0), -1011);
        SteamTunes z = ashore("a b", 9999, 0);
        z.sheet(0, 1, 1);
        z.lay(0, 0, 9999);
        CHECK.due("the index ahead of none", z.blame(0, 0, 100, 0, 1, 0, 0), -1012);
    }

    private static void cracks() {
        // Steam 100, 100, 100 with a or b alone: 4 heated, 4 drawn.
        SteamTunes x = ashore("a b a", 1200, 1800, 1200);
        CHECK.due("two cracks", x.blame(0, 0, 100, 0, 1, 0, 0), 2);
        CHECK.due("no key", x.blame(0, 0, 100, 0, 1, 0, 1), SteamTunes.NONE);
        CHECK.due("which", x.blame(0, 0, 100, 0, 1, 0, 2), 3);
        CHECK.due("crack of 0", x.blame(0, 0, 100, 0, 1, 0, 20), 200);
        CHECK.due("crack of 1", x.blame(0, 0, 100, 0, 1, 0, 21), -200);
        CHECK.due("crack of 2, which was not heard", x.blame(0, 0, 100, 0, 1, 0, 22), 0);
        CHECK.due("nothing is changed", x.count(5), 0);
        x.lay(0, 1, 1799);
        CHECK.due("-201 is no crack", x.blame(0, 0, 100, 0, 1, 0, 0), -1004);
        x.lay(0, 1, 1800);
        x.lay(0, 0, 1201);
        CHECK.due("201 is none", x.blame(0, 0, 100, 0, 1, 0, 0), -1004);
        x.lay(0, 0, GAP);
        CHECK.due("a gap", x.blame(0, 0, 100, 0, 1, 0, 20), 200);
        x.lay(0, 2, GAP);
        CHECK.due("gaps: one crack", x.blame(0, 0, 100, 0, 1, 0, 0), 1);
        CHECK.due("0 was not heard", x.blame(0, 0, 100, 0, 1, 0, 20), 0);
        SteamTunes y = ashore("bc ac", 2000, 990);
        // The second chord begins at 100 + 4 - 12 = 92, off -8: of each chord the least is heard.
        CHECK.due("the least whistle of a chord", y.blame(0, 0, 100, 0, 1, 0, 2), 1);
        CHECK.due("its crack", y.blame(0, 0, 100, 0, 1, 0, 20), -2);
        SteamTunes z = ashore("a a", 2000, 2000);
        CHECK.due("in key 1", z.blame(0, 1, 100, 0, 1, 0, 0), 0);
        CHECK.due("in key 1 from 110", z.blame(0, 1, 110, 0, 1, 0, 21), -10);
    }

    private static void leakingKey() {
        // Whistle 2 leaks 4 in each beat: 100, 96, 92; 0 or 1 would leak 2 of beats in which the other sounds.
        SteamTunes x = ashore("a a b", 1000, 996, 1992);
        CHECK.due("one", x.blame(0, 0, 100, 0, 1, 0, 0), 1);
        CHECK.due("key 2", x.blame(0, 0, 100, 0, 1, 0, 1), 2);
        CHECK.due("no cracks", x.blame(0, 0, 100, 0, 1, 0, 2), 0);
        SteamTunes y = ashore("a a b", 1000, 998, 2006);
        CHECK.due("a key and a crack", y.blame(0, 0, 100, 0, 1, 0, 0), 2);
        CHECK.due("key 1", y.blame(0, 0, 100, 0, 1, 0, 1), 1);
        CHECK.due("crack of 1", y.blame(0, 0, 100, 0, 1, 0, 21), 10);
        // A rest heats 4 and a leak of 0 and of 1 is 2: both come out, the less key is told.
        SteamTunes z = ashore(". . c", 0, 0, 3004);
        CHECK.due("one key", z.blame(0, 0, 100, 0, 1, 0, 0), 1);
        CHECK.due("a crack of -4 is one too, and without a key", z.blame(0, 0, 100, 0, 1, 0, 1), SteamTunes.NONE);
        z.lay(0, 2, 3008);
        CHECK.due("no blame needed", z.blame(0, 0, 100, 0, 1, 0, 0), 0);
        SteamTunes v = ashore("c . c", 3000, 0, 2998);
        // 100, 96, 100 without a leak; 100, 94, 96 if 0 or 1 leaks.
        CHECK.due("neither none nor one key nor one crack", v.blame(0, 0, 100, 0, 1, 0, 0), -1004);
        v.lay(0, 2, 2996);
        CHECK.due("the least of two keys", v.blame(0, 0, 100, 0, 1, 0, 1), 0);
    }

    private static void fewest() {
        SteamTunes x = ashore("a a c", 1000, 1000, 3000);
        CHECK.due("none at all", x.blame(0, 0, 100, 0, 1, 0, 0), 0);
        SteamTunes y = ashore("a b c", 1000, 1998, 2996);
        // Key 0 leaks 2 in the second beat alone; key 1 in the first alone: 100, 98, 98; key 2 both: 100, 96, 92.
        CHECK.due("a key and a crack, or two cracks", y.blame(0, 0, 100, 0, 1, 0, 0), 2);
        CHECK.due("then without a key", y.blame(0, 0, 100, 0, 1, 0, 1), SteamTunes.NONE);
        CHECK.due("cracks of 1 and 2", y.blame(0, 0, 100, 0, 1, 0, 2), 6);
        y.lay(0, 2, 2998);
        CHECK.due("one key is fewer", y.blame(0, 0, 100, 0, 1, 0, 0), 1);
        CHECK.due("key 1", y.blame(0, 0, 100, 0, 1, 0, 1), 1);
    }

    private static void inPlaceOfNow() {
        SteamTunes x = ashore("a a b", 1000, 1000, 2000);
        x.crack(0, 50);
        x.leak(2, true);
        CHECK.due("cracks and leaks of now do not count", x.blame(0, 0, 100, 0, 1, 0, 0), 0);
        x.stem(0, 7);
        CHECK.due("stems do", x.blame(0, 0, 100, 0, 1, 0, 20), -7);
        x.undo();
        x.fire(1);
        CHECK.due("fire does", x.blame(0, 0, 100, 0, 1, 0, 0), -1004);
        x.fire(9);
        x.valve(100);
        CHECK.due("the valve does", x.blame(0, 0, 100, 0, 1, 0, 0), 0);
        CHECK.due("nothing is changed", x.told(0, 5), 50);
    }

    private static void lanes() {
        SteamTunes x = new SteamTunes();
        x.whistle(100, 6, 0, false);
        Check.tune(x, "a");
        x.sheet(1, 0, 1);
        x.lay(1, 0, 120);
        CHECK.due("bytes", x.blame(0, 0, 100, 1, 0, 0, 20), 20);
        x.lay(1, 0, 200);
        CHECK.due("bytes keep their lowest bits", x.blame(0, 0, 100, 1, 0, 0, 20), -156);
        x.sheet(2, 2, 1);
        x.lay(2, 0, GAP);
        CHECK.due("a gap in ints", x.blame(0, 0, 100, 2, 2, 0, 0), 0);
        x.lay(2, 0, Integer.MIN_VALUE + 100);
        CHECK.due("far below", x.blame(0, 0, 100, 2, 2, 0, 0), -1004);
        x.lay(2, 0, Integer.MIN_VALUE);
        CHECK.due("farther below", x.blame(0, 0, 100, 2, 2, 0, 0), -1004);
        x.lay(2, 0, Integer.MAX_VALUE);
        CHECK.due("far above", x.blame(0, 0, 100, 2, 2, 0, 0), -1004);
        x.lay(2, 0, 300);
        CHECK.due("200 above", x.blame(0, 0, 100, 2, 2, 0, 20), 200);
    }
}
