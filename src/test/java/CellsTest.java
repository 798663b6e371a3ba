import java.util.ArrayList;
import java.util.List;
import java.util.function.ToIntFunction;

/**
 * Promises 26, 34, 35, 36: every cell of every sheet, read one by one as a crack that blame() finds. What is refused, or
 * only asks, or meets another sheet, leaves them all; a sheet that is new has only cells 0.
 */
public final class CellsTest {
    private static final Check CHECK = new Check();
    private static final int SHEETS = 4, CELLS = 60, LANES = 3;
    private static final int NO_SHEET = -1011, NO_CELL = -1012, OTHER_LANE = -1013;

    // The calls so far: they are made again on a new object for each sheet that is read, so that none has more than 512.
    private final List<ToIntFunction<SteamTunes>> calls = new ArrayList<>();
    private final SteamTunes x = new SteamTunes();
    // What each sheet has to hold; its length is the number of its cells, null is nothing.
    private final int[][] due = new int[SHEETS][];
    private final int[] laneOf = new int[SHEETS];

    private CellsTest() {
        // Its pitch is 0 at every pressure, so that its crack is the cell.
        call("whistle", y -> y.whistle(0, 1, 0, false), 0);
        call("tune", y -> Check.tune(y, "a"), 0);
    }

    public static void main(String[] args) {
        for (int lane = 0; lane < LANES; lane++) {
            new CellsTest().laid(lane);
            new CellsTest().refused(lane);
        }
        new CellsTest().sizes();
        CHECK.finish();
    }

    private void call(String told, ToIntFunction<SteamTunes> one, int wanted) {
        calls.add(one);
        CHECK.due(told, one.applyAsInt(x), wanted);
    }

    private SteamTunes again() {
        SteamTunes y = new SteamTunes();
        for (ToIntFunction<SteamTunes> one : calls) {
            one.applyAsInt(y);
        }
        return y;
    }

    private void make(int k, int lane, int n) {
        call("sheet(" + k + ", " + lane + ", " + n + ")", y -> y.sheet(k, lane, n), 1);
        due[k] = new int[n];
        laneOf[k] = lane;
    }

    /** Only values that a byte can hold and a crack can be, so that each cell can be read in every lane. */
    private void lay(int k, int i, int v) {
        call("lay(" + k + ", " + i + ", " + v + ")", y -> y.lay(k, i, v), 1);
        due[k][i] = v;
    }

    private void fill(int lane) {
        for (int k = 0; k < SHEETS; k++) {
            make(k, (lane + k) % LANES, CELLS - k);
            for (int i = 0; i < CELLS - k; i++) {
                lay(k, i, (i * 7 + k * 31 + 1) % 255 - 127);
            }
        }
    }

    private void seeAll(String behind) {
        for (int k = 0; k < SHEETS; k++) {
            SteamTunes y = again();
            for (int lane = 0; lane < LANES; lane++) {
                for (int f = -1; f <= CELLS; f++) {
                    int got = y.blame(0, 0, 100, k, lane, f, 20);
                    CHECK.due("behind " + behind + ": cell " + f + " of sheet " + k + " as " + lane, got, wanted(k, lane, f));
                }
            }
        }
    }

    private int wanted(int k, int lane, int f) {
        if (due[k] == null) {
            return NO_SHEET;
        }
        if (laneOf[k] != lane) {
            return OTHER_LANE;
        }
        return f < 0 || f >= due[k].length ? NO_CELL : due[k][f];
    }

    private void laid(int lane) {
        seeAll("nothing");
        make(1, lane, CELLS);
        seeAll("one sheet");
        fill(lane);
        seeAll("filling");
        for (int k = 0; k < SHEETS; k++) {
            lay(k, 0, 100 + k);
            lay(k, CELLS - 1 - k, -100 - k);
            seeAll("laying at both ends of sheet " + k);
        }
        // Used again: neither shorter nor longer, nor of another lane, may old cells come back.
        make(2, (lane + 2) % LANES, 5);
        make(0, (lane + 1) % LANES, CELLS);
        seeAll("new sheets");
        make(2, (lane + 2) % LANES, CELLS);
        seeAll("a longer sheet");
    }

    private void refused(int lane) {
        fill(lane);
        int own = laneOf[0];
        int other = (own + 1) % LANES;
        call("sheet of a wrong number", y -> y.sheet(-1, own, 3), -1);
        call("sheet of a wrong number", y -> y.sheet(4, own, 3), -1);
        call("sheet of a wrong lane", y -> y.sheet(0, 3, 3), -1);
        call("sheet of a wrong lane", y -> y.sheet(0, -1, 3), -1);
        call("sheet too long", y -> y.sheet(0, own, CELLS + 1), -1);
        call("sheet too long", y -> y.sheet(0, other, Integer.MAX_VALUE), -1);
        call("sheet below 0", y -> y.sheet(0, other, -1), -14);
        call("sheet below 0", y -> y.sheet(0, own, Integer.MIN_VALUE), -14);
        seeAll("sheets refused");
        call("lay ahead", y -> y.lay(0, -1, 5), -12);
        call("lay behind", y -> y.lay(0, CELLS, 5), -12);
        call("lay behind", y -> y.lay(3, CELLS - 3, 5), -12);
        call("lay far behind", y -> y.lay(0, Integer.MAX_VALUE, 5), -12);
        call("lay far ahead", y -> y.lay(0, Integer.MIN_VALUE, 5), -12);
        call("lay on no sheet", y -> y.lay(4, 0, 5), -1);
        seeAll("lays refused");
        call("scan as another lane", y -> y.scan(0, other, 0, 1), -13);
        call("scan of what is no whistle", y -> y.scan(0, own, 0, 1), -21);
        call("scan behind", y -> y.scan(0, own, CELLS - 3, 1), -12);
        call("scan of none", y -> y.scan(0, own, 0, 0), 1);
        call("undo of nothing", y -> y.undo(), -4);
        call("fire", y -> y.fire(5), 3);
        call("undo", y -> y.undo(), 0);
        seeAll("scans and an undo");
    }

    private void sizes() {
        for (int n = 0; n <= CELLS; n++) {
            make(n % SHEETS, n % LANES, n);
            if (n > 0) {
                lay(n % SHEETS, n - 1, n);
            }
            CHECK.due("cells of sheet 0", x.count(8), due[0].length);
        }
        seeAll("all sizes");
    }
}
