/** Promises 17 to 25. */
public final class TunesTest {
    private static final Check CHECK = new Check();

    public static void main(String[] args) {
        feed();
        end();
        tune();
        faults();
        faultsInOrder();
        fault();
        tuneOf();
        play();
        playDry();
        would();
        key();
        set();
        setWithRests();
        setTies();
        setAskedInTurn();
        CHECK.finish();
    }

    private static void feed() {
        SteamTunes x = new SteamTunes();
        for (int i = 1; i <= 20; i++) {
            CHECK.due("feed " + i, x.feed(0x6120202020202020L), 8 * i);
        }
        CHECK.due("168 bytes", x.feed(0), SteamTunes.FULL);
        CHECK.due("still 160", x.count(7), 160);
        x.end(153);
        CHECK.due("161 bytes", x.feed(0), SteamTunes.FULL);
        x.end(152);
        CHECK.due("160 bytes", x.feed(0x6220202020202020L), 160);
        CHECK.due("20 chords", x.tune(), 0);
        CHECK.due("the highest byte comes first", x.tuneOf(0, 10 + 19), 2);
        CHECK.due("no acts", x.count(6), 0);
    }

    private static void end() {
        SteamTunes x = new SteamTunes();
        CHECK.due("end(1) of none", x.end(1), -1);
        CHECK.due("end(-1)", x.end(-1), -1);
        x.feed(0x6120202020202020L);
        CHECK.due("end(9) of 8", x.end(9), -1);
        CHECK.due("end(8) of 8", x.end(8), 8);
        CHECK.due("end(3) of 8", x.end(3), 8);
        CHECK.due("three bytes", x.count(7), 3);
        CHECK.due("end(0) of 3", x.end(0), 3);
        CHECK.due("behind it", x.feed(0x6320202020202020L), 8);
        x.tune();
        CHECK.due("c", x.tuneOf(0, 10), 4);
    }

    private static void chords(String text, int... want) {
        SteamTunes x = new SteamTunes();
        CHECK.due(text, Check.tune(x, text), 0);
        CHECK.due(text + ": beats", x.tuneOf(0, 0), want.length);
        for (int i = 0; i < want.length; i++) {
            CHECK.due(text + ": chord " + i, x.tuneOf(0, 10 + i), want[i]);
        }
        CHECK.due(text + ": tape", x.count(7), 0);
        CHECK.due(text + ": fault", x.fault(), 0);
    }

    private static void tune() {
        chords("a", 1);
        chords("  l  ", 2048);
        chords(".", 0);
        chords("...", 0, 0, 0);
        chords("abc.cba", 7, 0, 7);
        chords("edcba", 31);
        chords("a b", 1, 2);
        chords("2(a b)", 1, 2, 1, 2);
        chords(" 02 ( a 1 ( b ) ) c", 1, 2, 1, 2, 4);
        chords("2(a 2(b 3(.)) )c", 1, 2, 0, 0, 0, 2, 0, 0, 0, 1, 2, 0, 0, 0, 2, 0, 0, 0, 4);
        chords("1(1(1(1(a))))", 1);
        chords("1(a)1(b)1(c)1(d)1(e)", 1, 2, 4, 8, 16);
        chords("a2(b)", 1, 2, 2);
        chords("20(a)4(b)", 1, 1, 1, 1, 1, 1, 1, 1, 1, 1, 1, 1, 1, 1, 1, 1, 1, 1, 1, 1, 2, 2, 2, 2);
        SteamTunes x = new SteamTunes();
        for (int t = 0; t < 6; t++) {
            CHECK.due("tune " + t, Check.tune(x, "a"), t);
        }
        Check.feed(x, "A");
        CHECK.due("a 7th", x.tune(), SteamTunes.FULL);
        CHECK.due("the tape stays", x.count(7), 1);
        CHECK.due("its fault is not looked for", x.fault(), 0);
    }

    private static void faulty(String text, int fault, int place) {
        SteamTunes x = new SteamTunes();
        CHECK.due("'" + text + "'", Check.tune(x, text), -10 - place);
        CHECK.due("'" + text + "': fault", x.fault(), fault);
        CHECK.due("'" + text + "': tape", x.count(7), 0);
        CHECK.due("'" + text + "': tunes", x.count(1), 0);
    }

    private static void faults() {
        faulty("", 2, 0);
        faulty("   ", 2, 3);
        faulty("A", 1, 0);
        faulty("a\tb", 1, 1);
        faulty("a \u00e9", 1, 2);
        faulty("a \0", 1, 2);
        faulty("m", 1, 0);
        faulty("abz", 1, 2);
        faulty("ab{", 1, 2);
        faulty("ab`", 1, 2);
        faulty("a 123(b)", 1, 2);
        faulty("a 1234", 1, 2);
        faulty("()", 2, 0);
        faulty("a (b)", 2, 2);
        faulty(")", 2, 0);
        faulty("a )", 2, 2);
        faulty("2()", 2, 2);
        faulty("2(a", 2, 3);
        faulty("2(a  ", 2, 5);
        faulty("2", 2, 1);
        faulty("2 ", 2, 2);
        faulty("2 a", 2, 2);
        faulty("2.", 2, 1);
        faulty("2 3(a)", 2, 2);
        faulty("2)", 2, 1);
        faulty("2((a))", 2, 2);
        faulty("2(a))", 2, 4);
        faulty("0(a)", 3, 0);
        faulty("00(a)", 3, 0);
        faulty("a 21(b)", 3, 2);
        faulty("99", 3, 0);
        faulty("aa", 4, 1);
        faulty("b abca", 4, 5);
        faulty("abcdef", 4, 5);
        faulty("abcdea", 4, 5);
        faulty("a lkjihg", 4, 7);
        faulty("1(1(1(1(1(a)))))", 5, 9);
        faulty("1(1(1(1(a) 1(a) 1(1(", 5, 19);
        faulty("20(20(20(20(a))))", 6, 0);
        faulty("20(a) 5(b)", 6, 0);
        faulty(".........................", 6, 0);
    }

    private static void faultsInOrder() {
        faulty("21m", 3, 0);
        faulty("21 a", 3, 0);
        faulty("2m", 1, 1);
        faulty("2am", 1, 2);
        faulty("2 123", 1, 2);
        faulty("2 21(a)", 2, 2);
        faulty("aa m", 4, 1);
        faulty("aam", 4, 1);
        faulty("2aa", 2, 1);
        faulty("1(1(1(1(1(A", 5, 9);
        faulty("20(20(a)) A", 1, 10);
        faulty("20(20(a)) )", 2, 10);
        faulty("20(20(a)) aa", 4, 11);
    }

    private static void fault() {
        SteamTunes x = new SteamTunes();
        Check.tune(x, "aa");
        CHECK.due("the latest", x.fault(), 4);
        CHECK.due("asked again", x.fault(), 4);
        Check.tune(x, "a");
        CHECK.due("none", x.fault(), 0);
        for (int i = 0; i < 4; i++) {
            Check.tune(x, "a");
        }
        Check.tune(x, "(");
        Check.tune(x, "a");
        x.tune();
        CHECK.due("full counts not", x.fault(), 0);
        SteamTunes y = new SteamTunes();
        Check.tune(y, "(");
        CHECK.due("before", y.fault(), 2);
        y.feed(0);
        CHECK.due("feeding alone changes nothing", y.fault(), 2);
    }

    private static void tuneOf() {
        SteamTunes x = new SteamTunes();
        CHECK.due("no tune", x.tuneOf(0, 0), -1);
        Check.tune(x, "2(bc .) l");
        Check.tune(x, ". .");
        CHECK.due("beats", x.tuneOf(0, 0), 5);
        CHECK.due("sum", x.tuneOf(0, 1), 5);
        CHECK.due("least", x.tuneOf(0, 2), 1);
        CHECK.due("greatest", x.tuneOf(0, 3), 11);
        CHECK.due("chord 0", x.tuneOf(0, 10), 6);
        CHECK.due("chord 1", x.tuneOf(0, 11), 0);
        CHECK.due("chord 4", x.tuneOf(0, 14), 2048);
        CHECK.due("chord 5", x.tuneOf(0, 15), -1);
        CHECK.due("what 4", x.tuneOf(0, 4), -1);
        CHECK.due("what 9", x.tuneOf(0, 9), -1);
        CHECK.due("what -1", x.tuneOf(0, -1), -1);
        CHECK.due("what min", x.tuneOf(0, Integer.MIN_VALUE), -1);
        CHECK.due("what max", x.tuneOf(0, Integer.MAX_VALUE), -1);
        CHECK.due("rests alone: beats", x.tuneOf(1, 0), 2);
        CHECK.due("rests alone: sum", x.tuneOf(1, 1), 0);
        CHECK.due("rests alone: least", x.tuneOf(1, 2), SteamTunes.NONE);
        CHECK.due("rests alone: greatest", x.tuneOf(1, 3), SteamTunes.NONE);
        CHECK.due("tune 2", x.tuneOf(2, 0), -1);
        CHECK.due("tune -1", x.tuneOf(-1, 0), -1);
    }

    /** Whistles of equal draw and slope. */
    private static SteamTunes alike(int whistles, int draw, int slope) {
        SteamTunes x = new SteamTunes();
        for (int w = 0; w < whistles; w++) {
            x.whistle(100 * w, draw, slope, false);
        }
        return x;
    }

    private static void play() {
        SteamTunes x = alike(3, 4, 10);
        Check.tune(x, "a . b");
        x.fire(1);
        CHECK.due("no such tune", x.play(1, 0), -1);
        CHECK.due("tune -1", x.play(-1, 0), -1);
        CHECK.due("key 12", x.play(0, 12), -1);
        CHECK.due("key -12", x.play(0, -12), -1);
        CHECK.due("below whistle 0", x.play(0, -1), SteamTunes.STATE);
        CHECK.due("above whistle 2", x.play(0, 2), SteamTunes.STATE);
        CHECK.due("refused: no acts", x.count(6), 1);
        CHECK.due("refused: nothing changed", x.boiler(0), 100);
        // 100 sounds, 98, 100 sounds, 98.
        CHECK.due("key 1", x.play(0, 1), 0);
        CHECK.due("pressure behind", x.boiler(0), 98);
        CHECK.due("water behind", x.boiler(1), 992);
        CHECK.due("one act", x.count(6), 2);
        x.crack(1, -77);
        // 98 sounds, 96, 98 sounds: off -2 and the crack.
        CHECK.due("the crack sounds", x.play(0, 0), 79);
        x.undo();
        x.leak(2, true);
        // Whistle 2 leaks 2: 98 sounds off -2, then 94, 94 (drawn 2, heated 2), sounds off crack 77 and 6.
        CHECK.due("with a leak", x.play(0, 0), 83);
        CHECK.due("with a leak: pressure", x.boiler(0), 90);
        Check.tune(x, "...");
        CHECK.due("rests alone go in every key", x.play(1, -11), 0);
    }

    private static void playDry() {
        SteamTunes x = alike(12, 9, 0);
        for (int i = 0; i < 9; i++) {
            x.beat(4095);
        }
        Check.tune(x, "a b c . d");
        CHECK.due("water 28", x.boiler(1), 28);
        int acts = x.count(6);
        x.pressure(100);
        CHECK.due("dry at beat 4", x.play(0, 0), -104);
        CHECK.due("water 1", x.boiler(1), 1);
        CHECK.due("one act more", x.count(6), Math.min(10, acts + 2));
        CHECK.due("dry at once", x.play(0, 0), -100);
        x.undo();
        CHECK.due("dry at once is no act", x.boiler(1), 28);
        CHECK.due("dry in would", x.would(0, 1), -104);
        CHECK.due("no key but dry ones", x.key(0, 0), -104);
        CHECK.due("no key, its stray", x.key(0, 1), -104);
        CHECK.due("though it goes in 9", x.key(0, 2), 9);
    }

    private static void would() {
        SteamTunes x = alike(3, 4, 10);
        Check.tune(x, "a a b");
        x.fire(0);
        CHECK.due("would", x.would(0, 0), 8);
        CHECK.due("pressure as it was", x.boiler(0), 100);
        CHECK.due("water as it was", x.boiler(1), 1000);
        CHECK.due("no act", x.count(6), 1);
        CHECK.due("would(0, 2)", x.would(0, 2), SteamTunes.STATE);
        CHECK.due("would(0, 12)", x.would(0, 12), -1);
        CHECK.due("would(1, 0)", x.would(1, 0), -1);
        CHECK.due("as play", x.play(0, 0), 8);
        x.fire(9);
        x.pressure(150);
        x.would(0, 0);
        CHECK.due("a blow that would be is none", x.boiler(4), 0);
    }

    private static void key() {
        SteamTunes x = alike(5, 1, 0);
        Check.tune(x, "c");
        Check.tune(x, "f");
        Check.tune(x, ".");
        CHECK.due("t 3", x.key(3, 0), -100);
        CHECK.due("t -1", x.key(-1, 0), -100);
        CHECK.due("what 3", x.key(0, 3), -100);
        CHECK.due("what -1", x.key(0, -1), -100);
        CHECK.due("all alike: the least without sign", x.key(0, 0), 0);
        CHECK.due("goes in 5", x.key(0, 2), 5);
        x.crack(2, 10);
        CHECK.due("of -1 and 1 the less", x.key(0, 0), -1);
        x.crack(1, -1);
        CHECK.due("then 1", x.key(0, 0), 1);
        x.crack(3, 1);
        CHECK.due("then -2", x.key(0, 0), -2);
        CHECK.due("stray 0", x.key(0, 1), 0);
        x.crack(0, 5);
        CHECK.due("then 2", x.key(0, 0), 2);
        x.crack(4, -5);
        CHECK.due("then of stray 1 the less", x.key(0, 0), -1);
        CHECK.due("stray 1", x.key(0, 1), 1);
        CHECK.due("f only lower", x.key(1, 0), -2);
        CHECK.due("f goes in 5", x.key(1, 2), 5);
        CHECK.due("rests alone: key 0", x.key(2, 0), 0);
        CHECK.due("rests alone go in 23", x.key(2, 2), 23);
        SteamTunes y = new SteamTunes();
        Check.tune(y, "a");
        CHECK.due("no whistles: none", y.key(0, 0), -104);
        CHECK.due("no whistles: no stray", y.key(0, 1), -104);
        CHECK.due("no whistles: 0 keys", y.key(0, 2), 0);
    }

    private static void set() {
        SteamTunes x = alike(3, 4, 10);
        Check.tune(x, "ab . b");
        CHECK.due("t 1", x.set(1, 0, 0, 0, 0), -1);
        CHECK.due("t -1", x.set(-1, 0, 0, 0, 0), -1);
        CHECK.due("key 12", x.set(0, 12, 0, 0, 0), -1);
        CHECK.due("key -12", x.set(0, -12, 0, 0, 0), -1);
        CHECK.due("bound -1", x.set(0, 0, -1, 0, 0), -1);
        CHECK.due("bound 401", x.set(0, 0, 401, 0, 0), -1);
        CHECK.due("rests -1", x.set(0, 0, 0, -1, 0), -1);
        CHECK.due("rests 9", x.set(0, 0, 0, 9, 0), -1);
        int[] wrong = {-1, 3, 9, 13, 33, 39, 43, 64, Integer.MIN_VALUE, Integer.MAX_VALUE};
        for (int what : wrong) {
            CHECK.due("what " + what, x.set(0, 0, 0, 0, what), -1);
        }
        CHECK.due("does not go", x.set(0, 2, 0, 0, 0), SteamTunes.STATE);
        CHECK.due("bad ahead of that", x.set(0, 2, 0, 0, 13), -1);
        CHECK.due("all sound within 400", x.set(0, 1, 400, 0, 0), 3);
        CHECK.due("chord 0 in key 1", x.set(0, 1, 400, 0, 10), 6);
        CHECK.due("chord 1", x.set(0, 1, 400, 0, 11), 0);
        CHECK.due("chord 2", x.set(0, 1, 400, 0, 12), 4);
        // 100, 98, 104, 106.
        CHECK.due("pressure behind", x.set(0, 1, 400, 0, 2), 106);
        CHECK.due("nothing is changed", x.boiler(0), 100);
        CHECK.due("no acts", x.count(6), 0);
        x.leak(0, true);
        // Whistle 0 leaks 2 in each beat: 100, 96, 100, 100.
        CHECK.due("the leak is drawn", x.set(0, 1, 400, 0, 2), 100);
        x.undo();
        CHECK.due("what was found is not kept behind an act", x.set(0, 1, 400, 0, 2), 106);
        x.fire(9);
        x.pressure(150);
        CHECK.due("not above the valve", x.set(0, 1, 0, 0, 2), 150);
        CHECK.due("off 50 at 150: none sounds", x.set(0, 1, 49, 0, 0), 0);
    }

    private static void setWithRests() {
        SteamTunes x = alike(1, 6, 10);
        Check.tune(x, "a a");
        x.fire(2);
        x.pressure(92);
        // 92 is off by 8; each rest heats 4; a beat with the whistle loses 2.
        CHECK.due("within 0 without rests", x.set(0, 0, 0, 0, 0), 0);
        CHECK.due("within 0, one rest", x.set(0, 0, 0, 1, 0), 1);
        CHECK.due("a silent beat heats as a rest does", x.set(0, 0, 0, 1, 10), 0);
        CHECK.due("so the rest comes ahead of the second", x.set(0, 0, 0, 1, 41), 1);
        CHECK.due("and none ahead of the first", x.set(0, 0, 0, 1, 40), 0);
        CHECK.due("one rest used", x.set(0, 0, 0, 1, 1), 1);
        CHECK.due("it sounds in the second", x.set(0, 0, 0, 1, 11), 1);
        CHECK.due("within 2, two rests", x.set(0, 0, 2, 2, 0), 2);
        CHECK.due("both ahead of the first", x.set(0, 0, 2, 2, 40), 2);
        CHECK.due("98 at the end, then 96", x.set(0, 0, 2, 2, 2), 96);
        CHECK.due("no more rests than are of use", x.set(0, 0, 2, 8, 1), 2);
        CHECK.due("without rests one sounds late or not at all", x.set(0, 0, 2, 0, 0), 0);
    }

    private static void setTies() {
        SteamTunes x = alike(2, 4, 10);
        Check.tune(x, "ab ab");
        x.fire(0);
        // Two of the first chord bring the steam to 92, one to 96; within 4 both ways give three.
        CHECK.due("three sound", x.set(0, 0, 4, 0, 0), 3);
        CHECK.due("of one and two, the second chord wants the first thin", x.set(0, 0, 4, 0, 10), 2);
        CHECK.due("then both", x.set(0, 0, 4, 0, 11), 3);
        CHECK.due("at 0 one chord: the first is the greater", x.set(0, 0, 0, 0, 10), 3);
        CHECK.due("and the second is silent", x.set(0, 0, 0, 0, 11), 0);
    }

    /** What was found for one question must not answer another one. */
    private static void setAskedInTurn() {
        SteamTunes x = alike(2, 4, 10);
        Check.tune(x, "a a a");
        Check.tune(x, "a");
        x.fire(0);
        for (int i = 0; i < 2; i++) {
            // 100, 96, 92.
            CHECK.due("the first tune", x.set(0, 0, 8, 0, 0), 3);
            CHECK.due("the other tune", x.set(1, 0, 8, 0, 0), 1);
            CHECK.due("the first again", x.set(0, 0, 8, 0, 10), 1);
            CHECK.due("another key", x.set(0, 1, 8, 0, 10), 2);
            CHECK.due("another bound", x.set(0, 1, 4, 0, 0), 2);
            CHECK.due("the bound again", x.set(0, 1, 8, 0, 0), 3);
            CHECK.due("other rests", x.set(0, 1, 8, 1, 1), 0);
        }
        x.fire(4);
        x.pressure(84);
        CHECK.due("behind an act", x.set(1, 0, 8, 0, 0), 0);
        CHECK.due("with a rest", x.set(1, 0, 8, 1, 0), 1);
        CHECK.due("without", x.set(1, 0, 8, 0, 0), 0);
        x.undo();
        CHECK.due("undone", x.set(1, 0, 8, 0, 0), 1);
        x.crack(0, 9);
        CHECK.due("another act", x.set(1, 0, 8, 0, 0), 0);
    }
}
