import java.util.function.ToLongFunction;

/** A call that is refused answers with the first refusal that its words name, and changes nothing. */
public final class RefusalsTest {
    private static final Checks checks = new Checks();
    private static final int BAD = WalkingStones.BAD, STATE = WalkingStones.STATE, FULL = WalkingStones.FULL;
    private static final long NO = WalkingStones.NO;
    private static final int MIN = Integer.MIN_VALUE, MAX = Integer.MAX_VALUE;
    private static final int[] FAR = {-1, MIN, MAX};

    private static String some;
    private static String full;

    public static void main(String[] args) {
        some = Lakes.digest(Lakes.some());
        full = Lakes.digest(Lakes.full());
        digestSees();
        makingOnSome();
        makingOnFull();
        asking();
        host();
        hostInOrder();
        nightsThatStoodAhead();
        faultIsNoRefusal();
        backWithoutImage();
        askingChangesNothing();
        checks.end();
    }

    /** The call is refused on the lake with some of everything, which is as it was then. */
    private static void onSome(String call, long want, ToLongFunction<WalkingStones> made) {
        WalkingStones x = Lakes.some();
        checks.due(call, made.applyAsLong(x), want);
        checks.due(call + " changes nothing", Lakes.digest(x), some);
    }

    private static void onFull(String call, long want, ToLongFunction<WalkingStones> made) {
        WalkingStones x = Lakes.full();
        checks.due(call + ", all full", made.applyAsLong(x), want);
        checks.due(call + ", all full, changes nothing", Lakes.digest(x), full);
    }

    private static void onBoth(String call, long want, ToLongFunction<WalkingStones> made) {
        onSome(call, want, made);
        onFull(call, want, made);
    }

    /** What is compared must see each change that a call can make, or the rest would say nothing. */
    private static void digestSees() {
        checks.at("the digest sees");
        sees("stone", x -> x.stone(7, 7));
        sees("night", x -> x.night(10000));
        sees("how", x -> x.how(0, 0));
        sees("feed", x -> x.feed(1, ' '));
        sees("text", x -> x.text());
        sees("force", x -> x.force(0));
        sees("lay", x -> x.lay(0, 0));
        sees("track", x -> x.track(0, 0, 0));
        sees("peg", x -> x.peg(0));
        sees("cross", x -> x.cross(2, 1));
        sees("image", x -> x.image());
        sees("back", x -> x.back());
        sees("sheet, its sort", x -> x.sheet(0, 1, 3));
        sees("sheet, its size", x -> x.sheet(1, 1, 4));
        sees("sheet, missing", x -> x.sheet(2, -1, 0));
        sees("sheet, no longer missing", x -> x.sheet(3, 2, 3));
        sees("cell of bytes", x -> x.cell(0, 1, 1));
        sees("cell of shorts", x -> x.cell(1, 1, 5));
        sees("cell of ints", x -> x.cell(2, 2, 5));
        sees("copy", x -> x.copy(2, 3, 2, 0, 1));
        sees("nights", x -> x.nights(2, 2, 0, 1));
    }

    private static void sees(String call, ToLongFunction<WalkingStones> made) {
        WalkingStones x = Lakes.some();
        checks.due(call + " is taken", made.applyAsLong(x) >= 0, true);
        checks.due(call, Lakes.digest(x).equals(some), false);
    }

    private static void makingOnSome() {
        checks.says("Refusals, the first that the call's words name; they change nothing");
        for (int bad : FAR) {
            onBoth("stone, weight " + bad, BAD, x -> x.stone(bad, 1));
            onBoth("stone, place " + bad, BAD, x -> x.stone(1, bad));
            onBoth("night " + bad, BAD, x -> x.night(bad));
            onBoth("how, kind " + bad, BAD, x -> x.how(bad, 1));
            onBoth("how, number " + bad, BAD, x -> x.how(1, bad));
            onBoth("feed " + bad, BAD, x -> x.feed(bad, 0x2020202020202020L));
            onBoth("force " + bad, BAD, x -> x.force(bad));
            onBoth("lay, how " + bad, BAD, x -> x.lay(bad, 0));
            onBoth("lay, nights " + bad, BAD, x -> x.lay(0, bad));
            onBoth("track, stone " + bad, BAD, x -> x.track(bad, 1, 1));
            onBoth("track, length " + bad, BAD, x -> x.track(0, bad, 1));
            onBoth("track, turns " + bad, BAD, x -> x.track(0, 1, bad));
            onBoth("peg " + bad, BAD, x -> x.peg(bad));
            onBoth("cross, over " + bad, BAD, x -> x.cross(bad, 0));
            onBoth("cross, under " + bad, BAD, x -> x.cross(0, bad));
        }
        onBoth("feed 0", BAD, x -> x.feed(0, 0));
        onBoth("feed 9", BAD, x -> x.feed(9, 0));
        onBoth("night 100000", BAD, x -> x.night(100000));
        onBoth("night, way 4", BAD, x -> x.night(14));
        onBoth("cross alike", BAD, x -> x.cross(1, 1));
        onSome("force 3", BAD, x -> x.force(3));
        onSome("lay, nights 4", BAD, x -> x.lay(0, 4));
        onSome("lay, nights the wrong way about", BAD, x -> x.lay(0, 100));
        onSome("track, stone 3", BAD, x -> x.track(3, 0, 0));
        onSome("cross, over 3", BAD, x -> x.cross(3, 0));
        checks.says("A STONE: its number. BAD; STATE: one lies there; FULL.");
        onSome("stone 2 lies there", STATE, x -> x.stone(1, 0));
        onSome("stone 2 lies there, weight 0", BAD, x -> x.stone(0, 0));
        onSome("stone 2 lies there, weight 100", BAD, x -> x.stone(100, 0));
    }

    private static void makingOnFull() {
        checks.says("A STONE: its number. BAD; STATE: one lies there; FULL.");
        onFull("one lies there", STATE, x -> x.stone(1, 30));
        onFull("the last lies there", STATE, x -> x.stone(1, 64 * 54 + 39));
        onFull("one lies there, weight 0", BAD, x -> x.stone(0, 30));
        onFull("none lies there", FULL, x -> x.stone(1, 31));
        checks.says("A NIGHT (weather: 10000 times WET, 1000 times ICE, 10 times WIND, and WAY): its number. BAD; FULL.");
        onFull("night", FULL, x -> x.night(99993));
        checks.says("A HOW: its number. BAD; FULL.");
        onFull("how", FULL, x -> x.how(5, 20));
        checks.says("come behind THE TAPE: how many it has. BAD: n is not 1 .. 8. FULL.");
        onFull("feed", FULL, x -> x.feed(1, 'a'));
        onFull("feed", FULL, x -> x.feed(8, 'a'));
        checks.says("FULL: no TEXT more has room (THE TAPE stays).");
        onFull("text", FULL, x -> x.text());
        checks.says("A TRACK: its number. BAD; FULL.");
        onFull("track", FULL, x -> x.track(0, 0, 0));
        onFull("track, stone 10", BAD, x -> x.track(10, 0, 0));
        checks.says("A PEG: how many there are. BAD; FULL.");
        onFull("peg", FULL, x -> x.peg(5));
        checks.says("CROSS: how many there are. BAD (alike, too); FULL.");
        onFull("cross", FULL, x -> x.cross(0, 1));
        onFull("cross, one that was told", FULL, x -> x.cross(0, 1));
        onFull("cross, track 24", BAD, x -> x.cross(24, 1));
    }

    private static void asking() {
        checks.says("Refusals, the first that the call's words name; they change nothing");
        for (int bad : FAR) {
            onBoth("stoneTold", -5, x -> x.stoneTold(bad, 0));
            onBoth("stoneTold, what", -5, x -> x.stoneTold(0, bad));
            onBoth("told, how", BAD, x -> x.told(bad, 0, 0, 0));
            onBoth("told, stone", BAD, x -> x.told(0, bad, 0, 0));
            onBoth("told, night", BAD, x -> x.told(0, 0, bad, 0));
            onBoth("told, what", BAD, x -> x.told(0, 0, 0, bad));
            onBoth("needs, how", BAD, x -> x.needs(bad, 0, 0));
            onBoth("needs, stone", BAD, x -> x.needs(0, bad, 0));
            onBoth("needs, night", BAD, x -> x.needs(0, 0, bad));
            onBoth("run, how", BAD, x -> x.run(bad, 0, 0, 0));
            onBoth("run, nights", BAD, x -> x.run(0, bad, 0, 0));
            onBoth("run, stone", BAD, x -> x.run(0, 0, bad, 0));
            onBoth("run, what", BAD, x -> x.run(0, 0, 0, bad));
            onBoth("together, a", BAD, x -> x.together(bad, 0, 0));
            onBoth("together, b", BAD, x -> x.together(0, bad, 0));
            onBoth("together, off", BAD, x -> x.together(0, 1, bad));
            onBoth("groups", BAD, x -> x.groups(bad));
            onBoth("fits, track", BAD, x -> x.fits(bad, 0));
            onBoth("fits, how", BAD, x -> x.fits(0, bad));
            onBoth("odds, how", NO, x -> x.odds(bad, 0, 0));
            onBoth("odds, bits", NO, x -> x.odds(0, bad, 0));
            onBoth("odds, part", NO, x -> x.odds(0, 0, bad));
            onBoth("holds, stone", BAD, x -> x.holds(bad, 0));
            onBoth("holds, far", BAD, x -> x.holds(0, bad));
            onBoth("bars, how", BAD, x -> x.bars(bad, 0));
            onBoth("bars, far", BAD, x -> x.bars(0, bad));
            onBoth("seldom, how", NO, x -> x.seldom(bad, 0));
            onBoth("seldom, what", NO, x -> x.seldom(0, bad));
            onBoth("when, how", NO, x -> x.when(bad, 0));
            onBoth("when, stone", NO, x -> x.when(0, bad));
            onBoth("order", BAD, x -> x.order(bad));
            onBoth("look, coin", BAD, x -> x.look(bad, 0));
            onBoth("look, what", BAD, x -> x.look(0, bad));
            onBoth("foretold, how", BAD, x -> x.foretold(bad, 0));
            onBoth("foretold, night", BAD, x -> x.foretold(0, bad));
            onBoth("count", BAD, x -> x.count(bad));
        }
    }

    private static void host() {
        checks.says("the host's: -11 nothing where something is asked, -12 a place outside, -13 a thing of another sort or KIND, "
            + "-14 a size below 0.");
        for (int bad : FAR) {
            onBoth("held, how", BAD, x -> x.held(bad, 0, 0));
            onBoth("held, night", BAD, x -> x.held(0, bad, 0));
            onBoth("held, sheet", BAD, x -> x.held(0, 0, bad));
            onBoth("sheet", BAD, x -> x.sheet(bad, 0, 5));
            onBoth("sheet, missing", BAD, x -> x.sheet(bad, -1, 5));
            onBoth("cell, sheet", BAD, x -> x.cell(bad, 0, 77));
            onBoth("cell, item", -12, x -> x.cell(0, bad, 77));
            onBoth("copy, sheet", BAD, x -> x.copy(bad, 0, 0, 0, 1));
            onBoth("copy, other", BAD, x -> x.copy(0, 0, bad, 0, 1));
            onBoth("copy, i", -12, x -> x.copy(0, bad, 0, 0, 1));
            onBoth("copy, j", -12, x -> x.copy(0, 0, 0, bad, 1));
            onBoth("copy, n", -12, x -> x.copy(0, 0, 0, 0, bad));
            onBoth("nights, sheet", BAD, x -> x.nights(bad, 0, 0, 1));
            onBoth("nights, sort", BAD, x -> x.nights(0, bad, 0, 1));
            onBoth("nights, from", -12, x -> x.nights(0, 0, bad, 1));
            onBoth("nights, n", BAD, x -> x.nights(0, 0, 0, bad));
            onBoth("taken, how", -11, x -> x.taken(bad, 0));
            onBoth("taken, k", BAD, x -> x.taken(0, bad));
        }
        onBoth("sheet, n -1", -14, x -> x.sheet(0, 0, -1));
        onBoth("sheet, n least", -14, x -> x.sheet(1, 2, MIN));
        onBoth("sheet, n 41", BAD, x -> x.sheet(0, 0, 41));
        onBoth("sheet, sort -2", BAD, x -> x.sheet(0, -2, 5));
        onBoth("sheet, sort 3", BAD, x -> x.sheet(0, 3, 5));
        onBoth("copy to ints", -13, x -> x.copy(0, 0, 2, 0, 1));
        onBoth("copy to shorts", -13, x -> x.copy(2, 0, 1, 0, 0));
        onBoth("nights of another sort", -13, x -> x.nights(2, 1, 0, 1));
        onBoth("taken for a GUST", -13, x -> x.taken(0, 1));
        onBoth("slope taken for a PANES", -13, x -> x.taken(5, 4));
        onSome("cell of what is missing", -11, x -> x.cell(3, 0, 1));
        onSome("copy of what is missing", -11, x -> x.copy(3, 0, 0, 0, 1));
        onSome("copy to what is missing", -11, x -> x.copy(0, 0, 3, 0, 1));
        onSome("nights of what is missing", -11, x -> x.nights(3, 0, 0, 1));
        onSome("held by what is missing", -11, x -> x.held(0, 0, 3));
        onSome("held by too many", BAD, x -> x.held(0, 0, 1));
        onSome("copy, one too many", -12, x -> x.copy(2, 0, 2, 1, 7));
        onSome("copy, one too far", -12, x -> x.copy(2, 1, 2, 0, 7));
    }

    /** Where two refusals could be answered, the one that is named first is. */
    private static void hostInOrder() {
        checks.says("BAD: no such SHEET, sort; n above 40; -14.");
        onSome("no such sheet, n below 0", BAD, x -> x.sheet(4, 0, -1));
        onSome("no such sort, n below 0", BAD, x -> x.sheet(0, 3, -1));
        onSome("no such sort, n above", BAD, x -> x.sheet(0, -2, 41));
        checks.says("1. BAD: no such SHEET; -11; -12.");
        onSome("no such sheet, outside", BAD, x -> x.cell(4, -1, 0));
        onSome("missing, outside", -11, x -> x.cell(3, -1, 0));
        onSome("missing, far outside", -11, x -> x.cell(3, MAX, 0));
        checks.says("BAD: no such SHEET; -11; -13: they are of unlike sorts; -12 (also with n below 0).");
        onSome("missing, no such other", BAD, x -> x.copy(3, 0, 4, 0, 0));
        onSome("no such sheet, other missing", BAD, x -> x.copy(-1, 0, 3, 0, 0));
        onSome("missing both", -11, x -> x.copy(3, 0, 3, 0, 0));
        onSome("missing, outside", -11, x -> x.copy(3, -1, 0, -1, -1));
        onSome("other missing, outside", -11, x -> x.copy(0, -1, 3, -1, -1));
        onSome("unlike, outside", -13, x -> x.copy(0, -1, 1, 0, 1));
        onSome("unlike, n below 0", -13, x -> x.copy(0, 0, 1, 0, -1));
        onSome("unlike, far outside", -13, x -> x.copy(0, MAX, 2, MIN, MAX));
        checks.says("BAD: no such SHEET, sort, n; -13; -11; -12: what stood ahead came.");
        onSome("no such n, another sort", BAD, x -> x.nights(0, 1, 0, 21));
        onSome("no such n, missing", BAD, x -> x.nights(3, 1, 0, 21));
        onSome("no such n, outside", BAD, x -> x.nights(0, 0, -1, 21));
        onSome("no such sort, missing", BAD, x -> x.nights(3, 3, 0, 1));
        onSome("another sort, outside", -13, x -> x.nights(0, 1, -1, 1));
        onSome("another sort, n 0", -13, x -> x.nights(0, 2, 0, 0));
        onSome("missing, outside", -11, x -> x.nights(3, 1, -1, 1));
        onSome("missing, n 0", -11, x -> x.nights(3, 2, 0, 0));
        for (int sort = 0; sort <= 2; sort++) {
            int each = sort;
            onSome("missing is of no sort", -11, x -> x.nights(3, each, 0, 1));
        }
        checks.says("HELD. BAD: HOW, NIGHT, SHEET; -11; BAD: its size isn't as many as STONES; NONE.");
        onSome("no such how, missing", BAD, x -> x.held(6, 0, 3));
        onSome("no such night, missing", BAD, x -> x.held(0, 4, 3));
        onSome("no such sheet", BAD, x -> x.held(0, 0, 4));
        checks.says("BAD: k; -11: no such HOW; -13.");
        onSome("no such k, no such how", BAD, x -> x.taken(6, 6));
        onSome("no such k, of another kind", BAD, x -> x.taken(0, -1));
        onSome("no such how", -11, x -> x.taken(6, 5));
    }

    private static void nightsThatStoodAhead() {
        checks.says("-12: what stood ahead came.");
        for (int from = 0; from <= 7; from++) {
            for (int n = 0; n <= 20; n++) {
                WalkingStones x = Lakes.some();
                for (int i = 0; i < 7; i++) {
                    x.cell(2, i, i == 3 ? 4 : 10000);
                }
                int read = Math.min(n, 7 - from);
                int came = read - (from <= 3 && 3 < from + read ? 1 : 0);
                checks.due("nights from " + from + ", " + n, x.nights(2, 2, from, n), from + n > 7 ? -12 : came);
                checks.due("so many came", x.count(1), 4 + came);
            }
        }
    }

    private static void faultIsNoRefusal() {
        checks.says("THE TAPE, which is empty then, is a TEXT: its number; -100 less the place of its FAULT.");
        WalkingStones x = Lakes.some();
        x.feed(1, '!');
        checks.due("fault", x.text(), -100 - 21);
        checks.due("the tape is empty", x.count(7), 0);
        Checks.feed(x, "add 3;call 1;worth 2;");
        checks.due("all else is as it was", Lakes.digest(x), some);
    }

    private static void backWithoutImage() {
        checks.says("All that it keeps is as in THE IMAGE: how many STONES. STATE: there is none.");
        WalkingStones x = Lakes.withStones(3);
        x.how(0, 0);
        x.night(10990);
        x.lay(0, 0);
        x.track(0, 1, 1);
        x.peg(9);
        for (int i = 0; i < 2; i++) {
            checks.due("back", x.back(), STATE);
            checks.due("stone 2 lies there", x.stoneTold(2, 1), 64 * 12 + 32 + 9);
            checks.due("tracks", x.count(3), 1);
            checks.due("pegs", x.count(4), 1);
        }
        checks.due("image", x.image(), 3);
        checks.due("back", x.back(), 3);
        checks.due("and again", x.back(), 3);
        checks.due("tracks", x.count(3), 1);
    }

    private static void askingChangesNothing() {
        checks.says("Nothing changes; LAID: it lies there then.");
        for (int how = 0; how <= 5; how++) {
            int each = how;
            keeps("run", x -> x.run(each, 3, 0, 1));
            keeps("needs", x -> x.needs(each, 0, 0));
            keeps("fits", x -> x.fits(0, each));
            keeps("odds", x -> x.odds(each, 7, 0));
            keeps("bars", x -> x.bars(each, 9));
            keeps("seldom", x -> x.seldom(each, each));
            keeps("when", x -> x.when(each, 1));
            keeps("foretold", x -> x.foretold(each, 1));
            keeps("held", x -> x.held(each, 0, 0));
            keeps("taken", x -> x.taken(each, 0));
        }
        keeps("groups", x -> x.groups(9));
        keeps("order", x -> x.order(2));
        keeps("look", x -> x.look(20, 0));
        keeps("together", x -> x.together(1, 2, 9));
        keeps("holds", x -> x.holds(0, 9));
        keeps("copy of none", x -> x.copy(0, 3, 0, 0, 0));
        keeps("nights of none", x -> x.nights(0, 0, 0, 0));
        keeps("force of the rule", x -> x.force(2));
        keeps("missing again", x -> x.sheet(3, -1, 5));
    }

    private static void keeps(String call, ToLongFunction<WalkingStones> made) {
        WalkingStones x = Lakes.some();
        made.applyAsLong(x);
        checks.due(call + " changes nothing", Lakes.digest(x), some);
    }
}
