/** Lakes that tests begin with: one with some of everything, one with all of everything, and what can be told of them. */
final class Lakes {
    static final int MOST_STONES = 10, MOST_NIGHTS = 60, MOST_HOWS = 8, MOST_TRACKS = 24, MOST_CROSSES = 20, MOST_PEGS = 8;
    static final int MOST_TEXTS = 6, MOST_TAPE = 160, MOST_CELLS = 40;
    static final String PLAIN = "add 0;call 0;worth 0;";

    static final int NEW = 0, SOME = 1, FULL = 2;

    private Lakes() {
    }

    /** A lake made anew for each call on it, as an object is used for 512 calls at most. */
    static WalkingStones of(int which) {
        return which == NEW ? new WalkingStones() : which == SOME ? some() : full();
    }

    /** So many stones of weight 1, one each seven squares along the rows. */
    static WalkingStones withStones(int n) {
        WalkingStones x = new WalkingStones();
        for (int i = 0; i < n; i++) {
            x.stone(1, 64 * 6 * i + 30 + i);
        }
        return x;
    }

    /** Three stones, four nights, six hows, three tracks, crosses, pegs, two texts more, an image, tape, sheets 0 to 2. */
    static WalkingStones some() {
        WalkingStones x = new WalkingStones();
        int[][] stones = {{5, 650}, {20, 652}, {40, 0}};
        int[] nights = {13500, 19951, 990, 32202};
        int[][] tracks = {{0, 9, 2}, {1, 18, 3}, {2, 27, 3}};
        int[] pegs = {64 * 9 + 9, 64 * 11 + 11, 64 * 12 + 12};
        for (int[] stone : stones) {
            x.stone(stone[0], stone[1]);
        }
        for (int night : nights) {
            x.night(night);
        }
        for (int kind = 0; kind <= 5; kind++) {
            x.how(kind, 9 + kind);
        }
        for (int i = 0; i < 3; i++) {
            x.track(tracks[i][0], tracks[i][1], tracks[i][2]);
            x.peg(pegs[i]);
        }
        x.cross(0, 1);
        Checks.read(x, "add 1;call wind;worth ice+1;");
        x.force(1);
        x.image();
        x.lay(0, 0);
        x.cross(1, 2);
        Checks.read(x, "add -1;call wet;worth night;");
        x.force(2);
        someSheets(x);
        Checks.feed(x, "add 3;call 1;worth 2;");
        return x;
    }

    private static void someSheets(WalkingStones x) {
        x.sheet(0, 0, 3);
        x.sheet(1, 1, 5);
        x.sheet(2, 2, 7);
        for (int i = 0; i < 3; i++) {
            x.cell(0, i, i == 1 ? 0 : 1);
            x.cell(1, i, 10500 + i);
            x.cell(2, i, 16990 - 10 * i);
        }
    }

    /** As much of everything as there can be; the image was kept with no tracks, crosses, pegs. */
    static WalkingStones full() {
        WalkingStones x = withStones(MOST_STONES);
        x.image();
        for (int i = 0; i < MOST_NIGHTS; i++) {
            x.night(16500 + i % 4);
        }
        for (int i = 0; i < MOST_HOWS; i++) {
            x.how(i % 6, 10 + i);
        }
        for (int i = 0; i < MOST_TRACKS; i++) {
            x.track(i % MOST_STONES, 10 * i, i);
        }
        for (int i = 0; i < MOST_CROSSES; i++) {
            x.cross(i, i + 1);
        }
        for (int i = 0; i < MOST_PEGS; i++) {
            x.peg(64 * 8 * i + 8 * i);
        }
        for (int i = 1; i < MOST_TEXTS; i++) {
            Checks.read(x, "add " + i + ";call 1;worth " + i + ";");
        }
        x.force(3);
        for (int i = 0; i < MOST_TAPE; i += 8) {
            x.feed(8, 0x2020202020202020L);
        }
        for (int sheet = 0; sheet < 4; sheet++) {
            x.sheet(sheet, sheet % 3, sheet == 3 ? MOST_STONES : MOST_CELLS);
        }
        return x;
    }

    /** Whatever can be told of a lake by calls, as one text; the lake is another one then. */
    static String digest(WalkingStones x) {
        StringBuilder all = new StringBuilder();
        counts(x, all);
        for (int stone = 0; stone < x.count(0); stone++) {
            all.append("s ").append(x.stoneTold(stone, 0)).append(' ').append(x.stoneTold(stone, 1)).append(' ');
        }
        int last = x.count(1) - 1;
        for (int how = 0; how < x.count(2); how++) {
            all.append("h ").append(x.taken(how, 0)).append(' ').append(x.taken(how, 2)).append(' ');
            all.append(x.when(how, 0)).append(' ').append(x.seldom(how, 0)).append(' ').append(x.seldom(how, 4)).append(' ');
            all.append(x.foretold(how, last)).append(' ').append(x.bars(how, 20)).append(' ').append(x.odds(how, 3, 1)).append(' ');
            all.append(x.run(how, last, 0, 1)).append(' ').append(x.told(how, 0, 0, 2)).append(' ');
        }
        for (int track = 0; track < x.count(3); track++) {
            all.append("t ").append(x.order(track)).append(' ').append(x.fits(track, 0)).append(' ');
        }
        for (int far = 1; far < 64; far += 12) {
            all.append("p ").append(x.holds(0, far)).append(' ').append(x.holds(1, far)).append(' ');
        }
        for (int coin = 3; coin <= 99; coin += 8) {
            all.append("l ").append(x.look(coin, 0)).append(' ').append(x.look(coin, 1)).append(' ');
        }
        sheets(x, all);
        all.append("text ").append(x.text()).append(' ').append(x.force(x.count(6) - 1)).append(' ').append(x.look(99, 1)).append(' ');
        all.append("back ").append(x.back()).append(' ');
        counts(x, all);
        for (int stone = 0; stone < x.count(0); stone++) {
            all.append(x.stoneTold(stone, 1)).append(' ');
        }
        return all.toString();
    }

    private static void counts(WalkingStones x, StringBuilder all) {
        for (int what = 0; what <= 8; what++) {
            all.append("c ").append(x.count(what)).append(' ');
        }
    }

    /** What sheets hold is seen by the nights that they make, if nights have room, and by what is held. */
    private static void sheets(WalkingStones x, StringBuilder all) {
        for (int sheet = 0; sheet < 4; sheet++) {
            for (int sort = 0; sort < 3; sort++) {
                all.append("n ").append(x.nights(sheet, sort, 0, 5)).append(' ');
            }
            all.append(x.held(0, 0, sheet)).append(' ').append(x.cell(sheet, 2, 1)).append(' ').append(x.cell(sheet, 6, 1)).append(' ');
        }
        all.append(x.when(0, 0)).append(' ').append(x.when(0, 1)).append(' ');
    }
}
