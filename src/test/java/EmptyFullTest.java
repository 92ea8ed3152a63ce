import java.util.function.IntToLongFunction;

/** Every call on what is empty, and on what is full: the last that has room, the first that has none, and room again. */
public final class EmptyFullTest {
    private static final Checks checks = new Checks();
    private static final int BAD = WalkingStones.BAD, FULL = WalkingStones.FULL, NONE = WalkingStones.NONE;
    private static final long NO = WalkingStones.NO;

    public static void main(String[] args) {
        nothingAtAll();
        withoutStones();
        withoutNights();
        withoutTracksOrPegs();
        emptySheets();
        eachIsFilled();
        tapeIsFilled();
        textsAreFilled();
        fullStays();
        roomAgainBehindBack();
        leastLakes();
        checks.end();
    }

    private static void due(String call, long got, long want) {
        checks.due(call, got, want);
    }

    private static WalkingStones x() {
        return new WalkingStones();
    }

    private static void nothingAtAll() {
        checks.says("`WalkingStones()`: No STONES.");
        int[] counts = {0, 0, 0, 0, 0, 0, 1, 0, 0};
        for (int what = 0; what <= 8; what++) {
            due("count(" + what + ")", x().count(what), counts[what]);
        }
        due("stoneTold", x().stoneTold(0, 0), -5);
        due("told", x().told(0, 0, 0, 0), BAD);
        due("needs", x().needs(0, 0, 0), BAD);
        due("text", x().text(), -100);
        due("force", x().force(0), 0);
        due("force 1", x().force(1), BAD);
        due("run", x().run(0, 0, 0, 0), BAD);
        due("lay", x().lay(0, 0), BAD);
        due("track", x().track(0, 0, 0), BAD);
        due("together", x().together(0, 1, 0), BAD);
        due("groups", x().groups(0), 0);
        due("fits", x().fits(0, 0), BAD);
        due("odds", x().odds(0, 0, 0), NO);
        due("holds", x().holds(0, 0), BAD);
        due("bars", x().bars(0, 0), BAD);
        due("seldom", x().seldom(0, 0), NO);
        due("when", x().when(0, 0), NO);
        due("cross", x().cross(0, 1), BAD);
        due("order", x().order(0), BAD);
        for (int what = 0; what <= 2; what++) {
            due("look", x().look(0, what), 0);
            due("look", x().look(99, what), 0);
        }
        due("foretold", x().foretold(0, 0), BAD);
        due("held", x().held(0, 0, 0), BAD);
        due("image", x().image(), 0);
        due("back", x().back(), WalkingStones.STATE);
        checks.says("or missing (as all are at first)");
        for (int sheet = 0; sheet < 4; sheet++) {
            due("cell", x().cell(sheet, 0, 0), -11);
            due("copy", x().copy(sheet, 0, sheet, 0, 0), -11);
            due("nights", x().nights(sheet, sheet % 3, 0, 0), -11);
        }
        due("taken", x().taken(0, 0), -11);
    }

    /** Nights and hows, but no stone that could be pushed. */
    private static WalkingStones stoneless() {
        WalkingStones x = x();
        for (int i = 0; i < 3; i++) {
            x.night(16990 + i);
            x.how(2 * i, 20);
        }
        return x;
    }

    private static void withoutStones() {
        checks.says("(weight: that of the lightest STONE, 0 without any)");
        WalkingStones x = stoneless();
        Checks.read(x, "add 0;call weight=0;worth weight=0;");
        x.force(1);
        due("all are called", x.seldom(0, 4), 3);
        due("on none a stone is pushed", x.seldom(0, 5), 0);
        Checks.read(x, "add 0;call weight;worth weight;");
        x.force(2);
        due("none is called", x.seldom(0, 4), 0);
        checks.says("WAIT: all NIGHTS by how many (a fraction; 0 by 1, if none)");
        for (int how = 0; how < 3; how++) {
            due("how many", x.seldom(how, 0), 0);
            due("all nights without", x.seldom(how, 1), 3);
            due("0", x.seldom(how, 2), 0);
            due("by 1", x.seldom(how, 3), 1);
        }
        checks.at("without stones");
        due("lay", x.lay(0, 2), 0);
        due("bars", x.bars(0, 63), 0);
        due("foretold", x.foretold(0, 0), 0);
        due("when", x.when(0, 0), NO);
        due("told", x.told(0, 0, 0, 0), BAD);
        due("run", x.run(0, 2, 0, 0), BAD);
        due("odds", x.odds(0, 0, 1), 3);
        due("image", x.image(), 0);
        due("back", x.back(), 0);
        checks.says("the first STONE of which it isn't so; NONE.");
        x.sheet(0, 0, 0);
        due("an empty sheet for no stones", x.held(0, 0, 0), NONE);
        x.sheet(0, 0, 1);
        due("one number for no stones", x.held(0, 0, 0), BAD);
    }

    private static void withoutNights() {
        checks.says("(by a RUN over all NIGHTS)");
        WalkingStones x = Lakes.withStones(2);
        x.how(5, 20);
        x.how(0, 0);
        x.track(0, 0, 0);
        x.track(1, 3, 1);
        due("none went, none fits better", x.fits(0, 0), 9);
        due("9 less 3 less 3", x.fits(1, 1), 3);
        due("odds", x.odds(0, 3, 0), 1);
        due("odds", x.odds(0, 3, 1), 2);
        x.peg(0);
        x.peg(4095);
        due("none is beyond", x.bars(0, 63), 0);
        due("when", x.when(0, 0), 0);
        for (int what = 0; what <= 5; what++) {
            due("seldom, what " + what, x.seldom(0, what), what == 3 ? 1 : 0);
        }
        due("run", x.run(0, 0, 0, 0), BAD);
        due("lay", x.lay(0, 0), BAD);
        due("told", x.told(0, 0, 0, 1), BAD);
        due("needs", x.needs(0, 0, 0), BAD);
        due("foretold", x.foretold(0, 0), BAD);
    }

    private static void withoutTracksOrPegs() {
        checks.says("the product of what it FITS over TRACKS (of told bits, 16 at most, of the first 16), by that of all HOWS together.");
        for (int hows = 1; hows <= Lakes.MOST_HOWS; hows++) {
            WalkingStones x = x();
            for (int i = 0; i < hows; i++) {
                x.how(i % 6, i);
            }
            due("no bits: 1", x.odds(hows - 1, 0, 0), 1);
            due("no bits: by " + hows, x.odds(hows - 1, 0, 1), hows);
        }
        checks.says("less than the least or more than the greatest of all PEGS.");
        WalkingStones x = Lakes.withStones(3);
        x.how(0, 0);
        x.night(10990);
        due("no pegs hold none", x.holds(0, 63), 0);
        due("no pegs bar none", x.bars(0, 63), 0);
        checks.says("ORDER. BAD: no such place; NONE.");
        due("no tracks, no place", x.order(0), BAD);
    }

    private static void emptySheets() {
        checks.says("A SHEET becomes a row of n of a sort, all 0, or missing");
        for (int sort = 0; sort <= 2; sort++) {
            WalkingStones x = x();
            due("of none", x.sheet(0, sort, 0), 1);
            due("no item", x.cell(0, 0, 1), -12);
            due("none can be copied", x.copy(0, 0, 0, 0, 0), 0);
            due("not one", x.copy(0, 0, 0, 0, 1), -12);
            due("no nights", x.nights(0, sort, 0, 0), 0);
            due("not one night", x.nights(0, sort, 0, 1), -12);
            due("none came", x.count(1), 0);
            due("another sort is another one though empty", x.nights(0, (sort + 1) % 3, 0, 0), -13);
            due("of 20", x.sheet(0, sort, 20), 1);
            due("all 0", x.nights(0, sort, 0, 20), 20);
            for (int i = 0; i < 20; i++) {
                x.cell(0, i, 5);
            }
            due("5 is no night", x.nights(0, sort, 0, 20), 0);
            due("of 20 again", x.sheet(0, sort, 20), 1);
            due("all 0 again", x.nights(0, sort, 0, 20), 20);
        }
    }

    /** So many have room, and each tells its number (or how many there are); the next one is refused, and again. */
    private static void filled(String name, int most, int first, WalkingStones x, int what, IntToLongFunction call) {
        for (int i = 0; i < most; i++) {
            due(name + ": how many, ahead of number " + i, x.count(what), i);
            due(name + " number " + i, call.applyAsLong(i), first + i);
        }
        for (int i = 0; i < 3; i++) {
            due(name + " that has no room", call.applyAsLong(most + i), FULL);
            due(name + ": how many", x.count(what), most);
        }
    }

    private static void eachIsFilled() {
        checks.says("STONES (10 at most, numbered from 0)");
        WalkingStones x = x();
        filled("stone", 10, 0, x, 0, i -> x.stone(1 + i, 64 * 6 * (i % 10) + i));
        checks.says("NIGHTS (60 at most, numbered from 0)");
        filled("night", 60, 0, x, 1, i -> x.night(10000 + 10 * i));
        checks.says("HOWS (8 at most, numbered from 0)");
        filled("how", 8, 0, x, 2, i -> x.how(i % 6, i));
        checks.says("TRACKS (24 at most, numbered from 0)");
        filled("track", 24, 0, x, 3, i -> x.track(i % 10, 3 * i, i));
        checks.says("PEGS (8 at most): places.");
        filled("peg", 8, 1, x, 4, i -> x.peg(64 * i));
        checks.says("pairs of TRACKS told (20 at most)");
        filled("cross", 20, 1, x, 5, i -> x.cross(i % 24, (i + 1) % 24));
    }

    private static void tapeIsFilled() {
        checks.says("THE TAPE (160 bytes at most)");
        WalkingStones x = x();
        for (int i = 1; i <= 160; i++) {
            due("one byte more", x.feed(1, ' '), i);
        }
        for (int n = 1; n <= 8; n++) {
            due("none has room", x.feed(n, ' '), FULL);
        }
        due("160 stay", x.count(7), 160);
        due("text of blanks ends too early", x.text(), -100 - 160);
        due("empty then", x.count(7), 0);
        for (int left = 0; left <= 8; left++) {
            WalkingStones y = x();
            for (int i = 0; i < 160 - left; i++) {
                y.feed(1, ' ');
            }
            for (int n = 8; n > left; n--) {
                due(n + " bytes where " + left + " have room", y.feed(n, ' '), FULL);
                due("none of them came", y.count(7), 160 - left);
            }
            if (left > 0) {
                due(left + " bytes", y.feed(left, ' '), 160);
            }
        }
        String text = "add weight;call wet;worth wind;";
        WalkingStones z = x();
        due("all 160 are read", Checks.read(z, text + " ".repeat(160 - text.length())), 1);
        due("and again", Checks.read(z, " ".repeat(160 - text.length()) + text), 2);
    }

    private static void textsAreFilled() {
        checks.says("There are 6 TEXTS at most, TEXT 0 with them.");
        WalkingStones x = x();
        for (int i = 1; i < 6; i++) {
            due("how many", x.count(6), i);
            due("a fault takes no room", Checks.read(x, "add"), -103);
            due("its number", Checks.read(x, Lakes.PLAIN), i);
        }
        checks.says("FULL: no TEXT more has room (THE TAPE stays).");
        due("empty tape", x.text(), FULL);
        Checks.feed(x, Lakes.PLAIN);
        for (int i = 0; i < 3; i++) {
            due("full", x.text(), FULL);
            due("the tape stays", x.count(7), 21);
            due("six", x.count(6), 6);
        }
        due("the tape goes on", x.feed(1, ' '), 22);
    }

    /** What is full refuses, but all else goes on. */
    private static void fullStays() {
        checks.at("all is full");
        WalkingStones x = Lakes.full();
        due("stone", x.stone(1, 1), FULL);
        due("night", x.night(10000), FULL);
        due("how", x.how(0, 0), FULL);
        due("track", x.track(0, 0, 0), FULL);
        due("peg", x.peg(0), FULL);
        due("cross", x.cross(0, 1), FULL);
        due("feed", x.feed(1, 0), FULL);
        due("text", x.text(), FULL);
        due("nights are left out", x.nights(2, 2, 0, 20), 0);
        due("nights are left out, to the end", x.nights(2, 2, 21, 20), -12);
        int[] counts = {10, 60, 8, 24, 8, 20, 6, 160, 3};
        for (int what = 0; what <= 8; what++) {
            due("count(" + what + ")", x.count(what), counts[what]);
        }
        due("force", x.force(5), 3);
        due("lay", x.lay(5, 59) > 0, true);
        due("image", x.image(), 10);
        due("back", x.back(), 10);
    }

    private static void due(String call, boolean got, boolean want) {
        checks.due(call, got, want);
    }

    private static void roomAgainBehindBack() {
        checks.says("AN IMAGE keeps where STONES lie, THE RULE, how many TRACKS, CROSS, PEGS");
        WalkingStones x = Lakes.full();
        due("back", x.back(), 10);
        int[] counts = {10, 60, 8, 0, 0, 0, 6, 160, 0};
        for (int what = 0; what <= 8; what++) {
            due("count(" + what + ")", x.count(what), counts[what]);
        }
        filled("track", 24, 0, x, 3, i -> x.track(i % 10, 3 * i, i));
        filled("peg", 8, 1, x, 4, i -> x.peg(64 * i));
        filled("cross", 20, 1, x, 5, i -> x.cross(i % 24, (i + 1) % 24));
        due("stones have none", x.stone(1, 1), FULL);
        due("nights have none", x.night(0), FULL);
        due("hows have none", x.how(0, 0), FULL);
        due("texts have none", x.text(), FULL);
    }

    /** One of each: the least lake on which all can be asked. */
    private static void leastLakes() {
        checks.at("one of each");
        WalkingStones x = Lakes.withStones(1);
        x.night(10990);
        x.how(0, 0);
        x.track(0, 9, 0);
        due("fits", x.fits(0, 0), 9);
        due("odds", x.odds(0, 1, 0), 1);
        due("odds", x.odds(0, 1, 1), 1);
        due("groups", x.groups(0), 1);
        due("order", x.order(0), 0);
        due("no other one", x.together(0, 1, 0), BAD);
        due("no other one", x.cross(0, 1), BAD);
        x.peg(0);
        due("one peg holds none", x.holds(0, 63), 0);
        due("run", x.run(0, 0, 0, 1), 39);
        due("when", x.when(0, 0), 1);
        due("foretold", x.foretold(0, 0), 1);
        due("look", x.look(3, 0), 1);
        due("look", x.look(2, 0), 0);
    }
}
