/** Of each number that a call is told: the last that is taken and the first that is refused, on both sides. */
public final class BoundsTest {
    private static final Checks checks = new Checks();
    private static final int BAD = WalkingStones.BAD;
    private static final long NO = WalkingStones.NO;
    private static final int[] LAKES = {Lakes.SOME, Lakes.FULL};
    private static final int[] ALL_LAKES = {Lakes.NEW, Lakes.SOME, Lakes.FULL};

    public static void main(String[] args) {
        constants();
        stones();
        weathers();
        everyWeatherIsKept();
        wettest();
        hows();
        tellings();
        texts();
        runs();
        everySpan();
        tracks();
        oddsOfBits();
        pegs();
        nightsTold();
        looks();
        heldByWhat();
        counts();
        sheets();
        cells();
        copies();
        nightsBySheet();
        taken();
        checks.end();
    }

    private static void due(String call, long got, long want) {
        checks.due(call, got, want);
    }

    private static void constants() {
        checks.says("NONE is -1; NO, where a long is answered, -4611686018427387904.");
        due("NONE", WalkingStones.NONE, -1);
        due("NO", WalkingStones.NO, -4611686018427387904L);
        checks.says("BAD (-2: a number is none such or not as told), STATE (-3), FULL (-4)");
        due("BAD", BAD, -2);
        due("STATE", WalkingStones.STATE, -3);
        due("FULL", WalkingStones.FULL, -4);
    }

    private static void stones() {
        checks.says("a WEIGHT (1 .. 99), a place (64 y and x)");
        checks.range("weight", 1, 99, BAD, v -> new WalkingStones().stone(v, 0));
        checks.range("place", 0, 4095, BAD, v -> new WalkingStones().stone(1, v));
        for (int weight = 1; weight <= 99; weight++) {
            WalkingStones x = new WalkingStones();
            due("stone", x.stone(weight, 64 * weight % 4096), 0);
            due("weight is kept", x.stoneTold(0, 0), weight);
        }
        for (int place = 0; place < 4096; place++) {
            WalkingStones x = new WalkingStones();
            due("stone", x.stone(1, place), 0);
            due("place is kept", x.stoneTold(0, 1), place);
        }
        checks.says("Of a STONE: 0 WEIGHT, 1 its place. -5: none such.");
        checks.range("what", 0, 1, -5, v -> Lakes.withStones(1).stoneTold(0, v));
        for (int n = 1; n <= Lakes.MOST_STONES; n++) {
            WalkingStones x = Lakes.withStones(n);
            checks.range("stone of " + n, 0, n - 1, -5, v -> x.stoneTold(v, 0));
        }
    }

    private static void weathers() {
        checks.says("WET, ICE (0 .. 9 each), WIND (0 .. 99), WAY 0 .. 3 (x more, y more, x less, y less).");
        int[] good = {0, 1, 2, 3, 10, 990, 993, 1000, 9000, 9993, 10000, 90000, 99990, 99993};
        for (int weather : good) {
            due("night(" + weather + ")", new WalkingStones().night(weather), 0);
        }
        int[] bad = {-1, -2, -10, -7, -1000, -10000, -90000, 100000, 100001, 100003, 110000, 1000000, 65536 * 2, 1 << 30,
            Integer.MIN_VALUE, Integer.MIN_VALUE + 2, Integer.MAX_VALUE, Integer.MAX_VALUE - 4};
        for (int weather : bad) {
            due("night(" + weather + ")", new WalkingStones().night(weather), BAD);
        }
        for (int tens = 0; tens < 10000; tens += 7) {
            for (int way = 0; way < 10; way++) {
                due("way " + way + " of " + tens, new WalkingStones().night(10 * tens + way), way < 4 ? 0 : BAD);
            }
        }
    }

    /** A slope pushes a stone of weight 1 by 1 on every wet night, so add tells one digit of the night's. */
    private static void everyWeatherIsKept() {
        checks.says("(weather: 10000 times WET, 1000 times ICE, 10 times WIND, and WAY)");
        String tens = "(9<wind)+(19<wind)+(29<wind)+(39<wind)+(49<wind)+(59<wind)+(69<wind)+(79<wind)+(89<wind)";
        String[] digits = {"wet", "ice", tens, "wind-10*(" + tens + ")"};
        for (int from = 0; from < 100; from += 50) {
            WalkingStones x = new WalkingStones();
            x.stone(1, 64 * 32 + 32);
            x.how(5, 20);
            x.how(3, 0);
            for (int wind = from; wind < from + 50; wind++) {
                x.night(10000 * (1 + wind % 9) + 1000 * (wind % 10) + 10 * wind + wind % 4);
            }
            for (int i = 0; i < 4; i++) {
                due("text", Checks.read(x, "add " + digits[i] + ";call 0;worth 0;"), i + 1);
                x.force(i + 1);
                for (int night = 0; night < 50; night++) {
                    int wind = from + night;
                    int[] want = {1 + wind % 9, wind % 10, wind / 10, wind % 10};
                    due("digit " + i + " of night " + night, x.told(0, 0, night, 2), 1 + want[i]);
                }
            }
            x.force(0);
            int[] strides = {1, 64, -1, -64};
            for (int night = 0; night < 50; night++) {
                int wind = from + night;
                int went = wind % 10 > 5 ? wind / 10 : 0;
                due("way of night " + night, x.run(1, 101 * night, 0, 1), 64 * 32 + 32 + went * strides[wind % 4]);
            }
        }
    }

    private static void wettest() {
        checks.says("WET, ICE (0 .. 9 each)");
        for (int wet = 1; wet <= 9; wet++) {
            WalkingStones x = Lakes.withStones(1);
            x.how(5, 20);
            Checks.read(x, "add wet-1;call 0;worth 0;");
            x.force(1);
            int[] rests = {0, 3, 9993, 9990, 9991, 9992};
            for (int night = 0; night < rests.length; night++) {
                x.night(10000 * wet + rests[night]);
                due("wet of " + (10000 * wet + rests[night]), x.told(0, 0, night, 2), wet);
            }
        }
        WalkingStones y = Lakes.withStones(1);
        y.how(0, 20);
        y.night(9993);
        due("9993 is dry", y.told(0, 0, 0, 0), 0);
    }

    private static void hows() {
        checks.says("HOWS (8 at most, numbered from 0) have a KIND: 0 HOW, 1 GUST under HOW, 2 RAFT under GUST, 3 WHOLE under "
            + "RAFT, 4 PANES under RAFT, 5 SLOPE under HOW; a NUMBER (0 .. 20).");
        checks.range("kind", 0, 5, BAD, v -> new WalkingStones().how(v, 0));
        checks.range("number", 0, 20, BAD, v -> new WalkingStones().how(0, v));
        for (int number = 0; number <= 20; number++) {
            for (int kind = 0; kind <= 5; kind++) {
                WalkingStones x = new WalkingStones();
                due("how", x.how(kind, number), 0);
                due("number is kept", x.taken(0, kind), number);
            }
        }
    }

    private static void tellings() {
        checks.says("Whether a HOW MAY (what 0), DRAG of a STONE (1), PUSHES (2; with add), for a STONE on a NIGHT. BAD.");
        for (int which : LAKES) {
            int stones = Lakes.of(which).count(0), nights = Lakes.of(which).count(1), hows = Lakes.of(which).count(2);
            for (int what = 0; what <= 2; what++) {
                int each = what;
                checks.range("told, how", 0, hows - 1, BAD, v -> Lakes.of(which).told(v, 0, 0, each));
                checks.range("told, stone", 0, stones - 1, BAD, v -> Lakes.of(which).told(0, v, 0, each));
                checks.range("told, night", 0, nights - 1, BAD, v -> Lakes.of(which).told(0, 0, v, each));
            }
            checks.range("told, what", 0, 2, BAD, v -> Lakes.of(which).told(0, 0, 0, v));
            checks.range("told, what, of the last", 0, 2, BAD, v -> Lakes.of(which).told(hows - 1, stones - 1, nights - 1, v));
        }
        checks.says("NEEDS. BAD; NONE.");
        for (int which : LAKES) {
            checks.range("needs, how", 0, Lakes.of(which).count(2) - 1, BAD, v -> Lakes.of(which).needs(v, 0, 0));
            checks.range("needs, stone", 0, Lakes.of(which).count(0) - 1, BAD, v -> Lakes.of(which).needs(0, v, 0));
            checks.range("needs, night", 0, Lakes.of(which).count(1) - 1, BAD, v -> Lakes.of(which).needs(0, 0, v));
        }
    }

    private static void texts() {
        checks.says("BAD: n is not 1 .. 8. FULL.");
        checks.range("n", 1, 8, BAD, v -> new WalkingStones().feed(v, 0));
        for (int n = 1; n <= 8; n++) {
            due("so many bytes come", new WalkingStones().feed(n, -1), n);
        }
        checks.says("A TEXT is THE RULE: which was. BAD.");
        for (int n = 1; n <= Lakes.MOST_TEXTS; n++) {
            WalkingStones x = new WalkingStones();
            for (int i = 1; i < n; i++) {
                Checks.read(x, Lakes.PLAIN);
            }
            checks.range("text of " + n, 0, n - 1, BAD, v -> x.force(v));
        }
    }

    private static void runs() {
        checks.says("(nights: 100 times the one, and the other one): WENT (what 0), AT (1), TURNS (2) of a STONE. BAD.");
        for (int which : LAKES) {
            checks.range("run, how", 0, Lakes.of(which).count(2) - 1, BAD, v -> Lakes.of(which).run(v, 0, 0, 0));
            checks.range("run, stone", 0, Lakes.of(which).count(0) - 1, BAD, v -> Lakes.of(which).run(0, 0, v, 0));
            checks.range("run, what", 0, 2, BAD, v -> Lakes.of(which).run(0, 0, 0, v));
        }
        checks.range("run, nights from the first", 0, 3, BAD, v -> Lakes.some().run(0, v, 0, 0));
        checks.says("A RUN is LAID: how many squares all STONES went. BAD.");
        checks.range("lay, how", 0, 5, BAD, v -> Lakes.some().lay(v, 0));
        checks.range("lay, nights from the first", 0, 3, BAD, v -> Lakes.some().lay(0, v));
        checks.range("lay, how, all full", 0, 7, BAD, v -> Lakes.full().lay(v, 0));
    }

    private static void everySpan() {
        checks.says("A RUN by a HOW from a NIGHT to another one (not ahead of it)");
        int[] many = {1, 2, 59, 60};
        for (int n : many) {
            WalkingStones x = onAndBack(n);
            for (int span = -200; span < 6300; span++) {
                if (span % 200 == 0) {
                    x = onAndBack(n);
                }
                int from = Math.floorDiv(span, 100);
                int to = Math.floorMod(span, 100);
                boolean good = from >= 0 && from <= to && to < n;
                due("run over " + span + " of " + n, x.run(0, span, 0, 0), good ? to - from + 1 : BAD);
                if (!good) {
                    due("lay over " + span + " of " + n, x.lay(0, span), BAD);
                }
            }
        }
    }

    /** A stone that goes a square on each of so many nights, on and back. */
    private static WalkingStones onAndBack(int nights) {
        WalkingStones x = Lakes.withStones(1);
        x.how(0, 0);
        for (int i = 0; i < nights; i++) {
            x.night(10120 + 2 * (i % 2));
        }
        return x;
    }

    private static void tracks() {
        checks.says("TRACKS (24 at most, numbered from 0): a STONE, how LONG (0 .. 999), how many TURNS (0 .. 99).");
        checks.range("stone", 0, 2, BAD, v -> Lakes.some().track(v, 0, 0));
        checks.range("stone of 10", 0, 9, BAD, v -> Lakes.withStones(10).track(v, 0, 0));
        checks.range("length", 0, 999, BAD, v -> Lakes.withStones(1).track(0, v, 0));
        checks.range("turns", 0, 99, BAD, v -> Lakes.withStones(1).track(0, 0, v));
        checks.says("LONG differs by no more than a number (0 .. 99).");
        for (int which : LAKES) {
            int last = Lakes.of(which).count(3) - 1;
            checks.range("together, a", 0, last - 1, BAD, v -> v == last ? BAD : Lakes.of(which).together(v, last, 0));
            checks.range("together, the last a", 1, last, BAD, v -> v == 0 ? BAD : Lakes.of(which).together(v, 0, 0));
            checks.range("together, b", 0, last - 1, BAD, v -> v == last ? BAD : Lakes.of(which).together(last, v, 0));
            checks.range("together, the last b", 1, last, BAD, v -> v == 0 ? BAD : Lakes.of(which).together(0, v, 0));
            checks.range("together, off", 0, 99, BAD, v -> Lakes.of(which).together(0, 1, v));
            for (int track = 0; track <= last; track++) {
                due("together, one twice", Lakes.of(which).together(track, track, 99), BAD);
            }
        }
        groupsFitsOrder();
        checks.says("TOGETHER (1, 0). BAD (alike, too).");
        due("alike, and none such", Lakes.some().together(3, 3, 0), BAD);
        checks.says("CROSS: how many there are. BAD (alike, too); FULL.");
        checks.range("over", 1, 2, BAD, v -> v == 0 ? BAD : Lakes.some().cross(v, 0));
        checks.range("over the last", 0, 1, BAD, v -> v == 2 ? BAD : Lakes.some().cross(v, 2));
        checks.range("under", 1, 2, BAD, v -> v == 0 ? BAD : Lakes.some().cross(0, v));
        checks.range("under the last", 0, 1, BAD, v -> v == 2 ? BAD : Lakes.some().cross(2, v));
        for (int track = -1; track <= 3; track++) {
            due("alike " + track, Lakes.some().cross(track, track), BAD);
        }
    }

    private static void groupsFitsOrder() {
        for (int which : LAKES) {
            int last = Lakes.of(which).count(3) - 1;
            checks.says("GROUPS. BAD.");
            checks.range("off", 0, 99, BAD, v -> Lakes.of(which).groups(v));
            checks.says("What a TRACK FITS a HOW. BAD.");
            checks.range("track", 0, last, BAD, v -> Lakes.of(which).fits(v, 0));
            checks.range("how", 0, Lakes.of(which).count(2) - 1, BAD, v -> Lakes.of(which).fits(0, v));
            checks.says("ORDER. BAD: no such place; NONE.");
            checks.range("place", 0, last, BAD, v -> Lakes.of(which).order(v));
        }
    }

    private static void oddsOfBits() {
        checks.says("(of told bits, 16 at most, of the first 16)");
        for (int n = 0; n <= Lakes.MOST_TRACKS; n++) {
            WalkingStones x = Lakes.withStones(1);
            x.how(0, 0);
            x.how(0, 0);
            for (int i = 0; i < n; i++) {
                x.track(0, i, 0);
            }
            int bits = Math.min(16, n);
            checks.range("bits of " + n + " tracks", 0, (1 << bits) - 1, NO, v -> x.odds(0, v, 0));
            for (int bit = 0; bit < 32; bit++) {
                due("bit " + bit + " of " + n, x.odds(1, 1 << bit, 1), bit < bits ? 2 : NO);
            }
        }
        checks.says("ODDS: part 0 above, 1 below the line, in lowest terms. NO: none such.");
        checks.range("how", 0, 5, NO, v -> Lakes.some().odds(v, 1, 0));
        checks.range("part", 0, 1, NO, v -> Lakes.some().odds(0, 1, v));
        checks.range("how of 8", 0, 7, NO, v -> Lakes.full().odds(v, 1, 0));
    }

    private static void pegs() {
        checks.says("PEGS (8 at most): places.");
        checks.range("place", 0, 4095, BAD, v -> new WalkingStones().peg(v));
        for (int which : LAKES) {
            checks.says("PEGS hold a STONE by a number (0 .. 63)");
            checks.range("holds, far", 0, 63, BAD, v -> Lakes.of(which).holds(0, v));
            checks.says("Whether PEGS hold a STONE (1, 0). BAD.");
            checks.range("holds, stone", 0, Lakes.of(which).count(0) - 1, BAD, v -> Lakes.of(which).holds(v, 1));
            checks.says("BARS (of a RUN over all NIGHTS). BAD.");
            checks.range("bars, how", 0, Lakes.of(which).count(2) - 1, BAD, v -> Lakes.of(which).bars(v, 1));
            checks.range("bars, far", 0, 63, BAD, v -> Lakes.of(which).bars(0, v));
        }
    }

    private static void nightsTold() {
        for (int which : LAKES) {
            int stones = Lakes.of(which).count(0), nights = Lakes.of(which).count(1), hows = Lakes.of(which).count(2);
            checks.says("SELDOM: 0 how many, 1 the longest row without, 2, 3 WAIT (above, below), 4, 5 CALLED. NO: none such.");
            checks.range("how", 0, hows - 1, NO, v -> Lakes.of(which).seldom(v, 0));
            checks.range("what", 0, 5, NO, v -> Lakes.of(which).seldom(0, v));
            checks.says("WHEN (bits). NO: none such.");
            checks.range("how", 0, hows - 1, NO, v -> Lakes.of(which).when(v, 0));
            checks.range("stone", 0, stones - 1, NO, v -> Lakes.of(which).when(0, v));
            checks.says("FORETOLD (bits). BAD.");
            checks.range("how", 0, hows - 1, BAD, v -> Lakes.of(which).foretold(v, 0));
            checks.range("night", 0, nights - 1, BAD, v -> Lakes.of(which).foretold(0, v));
        }
    }

    private static void looks() {
        checks.says("LOOK for so much coin (0 .. 99)");
        for (int which : ALL_LAKES) {
            for (int what = 0; what <= 2; what++) {
                int each = what;
                checks.range("coin", 0, 99, BAD, v -> Lakes.of(which).look(v, each));
            }
        }
        checks.says("LOOK: the NIGHTS (what 0), worth (1), coin (2). BAD.");
        for (int which : ALL_LAKES) {
            checks.range("what", 0, 2, BAD, v -> Lakes.of(which).look(0, v));
            checks.range("what", 0, 2, BAD, v -> Lakes.of(which).look(99, v));
        }
    }

    private static void heldByWhat() {
        checks.says("HELD. BAD: HOW, NIGHT, SHEET; -11; BAD: its size isn't as many as STONES; NONE.");
        WalkingStones x = Lakes.some();
        for (int sheet = 0; sheet < 4; sheet++) {
            x.sheet(sheet, sheet % 3, 3);
        }
        checks.range("how", 0, 5, BAD, v -> x.held(v, 0, 0));
        checks.range("night", 0, 3, BAD, v -> x.held(0, v, 0));
        checks.range("sheet", 0, 3, BAD, v -> x.held(0, 0, v));
        for (int size = 0; size <= Lakes.MOST_CELLS; size++) {
            x.sheet(1, 2, size);
            due("size " + size + " for 3 stones", x.held(0, 2, 1), size == 3 ? -1 : BAD);
        }
    }

    private static void counts() {
        checks.says("How many: 0 STONES, 1 NIGHTS, 2 HOWS, 3 TRACKS, 4 PEGS, 5 CROSS, 6 TEXTS, 7 bytes of THE TAPE, 8 THE RULE. BAD.");
        for (int which : ALL_LAKES) {
            checks.range("what", 0, 8, BAD, v -> Lakes.of(which).count(v));
        }
        int[] due = {10, 60, 8, 24, 8, 20, 6, 160, 3};
        for (int what = 0; what <= 8; what++) {
            due("all full: count(" + what + ")", Lakes.full().count(what), due[what]);
        }
    }

    private static void sheets() {
        checks.says("SHEETS 0 .. 3 are rows of numbers, or missing (as all are at first): of sort 0 bytes, 1 shorts, 2 ints.");
        checks.range("sheet", 0, 3, BAD, v -> new WalkingStones().sheet(v, 0, 1));
        checks.range("sort", -1, 2, BAD, v -> new WalkingStones().sheet(0, v, 1));
        checks.says("(sort -1: n does not matter): 1. BAD: no such SHEET, sort; n above 40; -14.");
        for (int sort = 0; sort <= 2; sort++) {
            int each = sort;
            checks.range("n above", 0, 40, BAD, v -> v < 0 ? BAD : new WalkingStones().sheet(0, each, v));
            checks.range("n below", 0, 40, -14, v -> v > 40 ? -14 : new WalkingStones().sheet(0, each, v));
        }
        int[] sizes = {Integer.MIN_VALUE, -14, -1, 0, 40, 41, Integer.MAX_VALUE};
        for (int n : sizes) {
            WalkingStones x = Lakes.some();
            due("missing, n " + n, x.sheet(1, -1, n), 1);
            due("it is missing", x.cell(1, 0, 0), -11);
            due("missing again, n " + n, x.sheet(1, -1, n), 1);
            due("no such sort, n " + n, x.sheet(1, -2, n), BAD);
            due("no such sheet, n " + n, x.sheet(4, -1, n), BAD);
        }
    }

    private static void cells() {
        checks.says("Item i of a SHEET becomes v (of bytes, shorts its lowest 8, 16 bits): 1. BAD: no such SHEET; -11; -12.");
        for (int sort = 0; sort <= 2; sort++) {
            for (int n = 1; n <= Lakes.MOST_CELLS; n++) {
                WalkingStones x = new WalkingStones();
                x.sheet(3, sort, n);
                checks.range("item of " + n, 0, n - 1, -12, v -> x.cell(3, v, v));
            }
            WalkingStones x = new WalkingStones();
            x.sheet(3, sort, 0);
            for (int i = -2; i <= 2; i++) {
                due("item " + i + " of none", x.cell(3, i, 0), -12);
            }
        }
        WalkingStones y = Lakes.full();
        checks.range("sheet", 0, 3, BAD, v -> y.cell(v, 0, 0));
        int[] values = {0, -1, 127, 128, -128, -129, 255, 256, 32767, 32768, -32769, 65536, Integer.MIN_VALUE, Integer.MAX_VALUE};
        for (int v : values) {
            for (int sheet = 0; sheet < 4; sheet++) {
                due("any value: " + v, y.cell(sheet, 0, v), 1);
            }
        }
    }

    private static void copies() {
        checks.says("BAD: no such SHEET; -11; -13: they are of unlike sorts; -12 (also with n below 0).");
        checks.range("sheet", 0, 3, BAD, v -> fiveAndEight().copy(v, 0, 0, 0, 1));
        checks.range("other", 0, 3, BAD, v -> fiveAndEight().copy(0, 0, v, 0, 1));
        for (int n = 0; n <= 5; n++) {
            int each = n;
            checks.range("i, n " + n, 0, 5 - n, -12, v -> fiveAndEight().copy(0, v, 1, 0, each));
            checks.range("j, n " + n, 0, 8 - n, -12, v -> fiveAndEight().copy(0, 0, 1, v, each));
            checks.range("i of the longer one, n " + n, 0, 8 - n, -12, v -> fiveAndEight().copy(1, v, 0, 0, each));
            due("so many came", fiveAndEight().copy(0, 0, 1, 0, n), n);
        }
        for (int i = 0; i <= 5; i++) {
            int each = i;
            checks.range("n from " + i, 0, 5 - i, -12, v -> fiveAndEight().copy(0, each, 1, 0, v));
            checks.range("n to " + i, 0, 5 - i, -12, v -> fiveAndEight().copy(1, 0, 0, each, v));
        }
        WalkingStones x = new WalkingStones();
        x.sheet(2, 1, 40);
        due("40 of 40", x.copy(2, 0, 2, 0, 40), 40);
        due("41 of 40", x.copy(2, 0, 2, 0, 41), -12);
    }

    /** Sheets of five shorts, but sheet 1 of eight. */
    private static WalkingStones fiveAndEight() {
        WalkingStones x = new WalkingStones();
        for (int sheet = 0; sheet < 4; sheet++) {
            x.sheet(sheet, 1, sheet == 1 ? 8 : 5);
        }
        return x;
    }

    private static void nightsBySheet() {
        checks.says("n of them (0 .. 20): how many came (others are left out). BAD: no such SHEET, sort, n; -13; -11; "
            + "-12: what stood ahead came.");
        checks.range("sheet", 0, 3, BAD, v -> Lakes.full().nights(v, 0, 0, 1));
        checks.range("n", 0, 20, BAD, v -> Lakes.full().nights(0, 0, 0, v));
        for (int sheet = 0; sheet < 3; sheet++) {
            int each = sheet;
            WalkingStones x = Lakes.full();
            checks.range("sort of sheet " + sheet, sheet, sheet, -13, v -> v < 0 || v > 2 ? -13 : x.nights(each, v, 0, 1));
            checks.range("any sort", 0, 2, BAD, v -> x.nights(each, v, 0, 1));
        }
        for (int size = 0; size <= Lakes.MOST_CELLS; size++) {
            WalkingStones x = new WalkingStones();
            x.sheet(0, 2, size);
            if (size > 0) {
                checks.range("from, of " + size, 0, size - 1, -12, v -> x.nights(0, 2, v, 1));
            }
            due("all behind the end", x.nights(0, 2, size, 1), -12);
            due("none at the end", x.nights(0, 2, size, 0), 0);
        }
    }

    private static void taken() {
        checks.says("A HOW taken for one of KIND k (0 .. 5), or one under that one (also by others between): its NUMBER. "
            + "BAD: k; -11: no such HOW; -13.");
        for (int which : LAKES) {
            checks.range("how", 0, Lakes.of(which).count(2) - 1, -11, v -> Lakes.of(which).taken(v, 0));
            checks.range("k", 0, 5, BAD, v -> Lakes.of(which).taken(0, v));
        }
    }
}
