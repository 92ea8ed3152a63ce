import java.math.BigInteger;
import java.util.Arrays;

/** The edges that the document's terms name: where a how begins to push, where a stone stops, what is just near enough. */
public final class TermsEdgesTest {
    private static final Checks checks = new Checks();
    private static final int MIDDLE = 64 * 31 + 33;
    private static final int[] STRIDES = {1, 64, -1, -64};

    public static void main(String[] args) {
        mayByIceAndWet();
        dragsAreCut();
        pushesBegin();
        pushesEnd();
        slopes();
        needs();
        edgesOfTheLake();
        stonesInTheWay();
        stonesByNumbers();
        turns();
        laid();
        together();
        groups();
        fits();
        fitsByStones();
        oddsExactly();
        pegsNearEnough();
        bars();
        seldomRows();
        waits();
        whenBits();
        orders();
        lookCosts();
        lookTies();
        lookFirstTwelve();
        looksOneByOne();
        foretoldBits();
        held();
        images();
        twoAtOnePlace();
        cellsAreCut();
        copiesAsTheyWere();
        nightsLeftOut();
        kinds();
        checks.end();
    }

    private static void due(String call, long got, long want) {
        checks.due(call, got, want);
    }

    /** One stone in the middle, one how, one night. */
    private static WalkingStones lake(int weight, int kind, int number, int weather) {
        WalkingStones x = new WalkingStones();
        x.stone(weight, MIDDLE);
        x.how(kind, number);
        x.night(weather);
        return x;
    }

    private static void rule(WalkingStones x, String text) {
        due(text, Checks.read(x, text), x.count(6) - 1);
        x.force(x.count(6) - 1);
    }

    private static void mayByIceAndWet() {
        checks.says("HOW: WET isn't 0; GUST: as a HOW; RAFT: as a GUST, and ICE is above 2; WHOLE: as a RAFT, and ICE is above 5; "
            + "PANES: as a GUST, and ICE is 1 to 4; SLOPE: as a HOW.");
        int[] least = {0, 0, 3, 6, 1, 0};
        int[] most = {9, 9, 9, 9, 4, 9};
        for (int kind = 0; kind <= 5; kind++) {
            for (int wet = 0; wet <= 9; wet++) {
                for (int ice = 0; ice <= 9; ice++) {
                    boolean may = wet != 0 && ice >= least[kind] && ice <= most[kind];
                    WalkingStones x = lake(1, kind, 20, 10000 * wet + 1000 * ice + 990);
                    due("kind " + kind + ", wet " + wet + ", ice " + ice, x.told(0, 0, 0, 0), may ? 1 : 0);
                    due("pushes, kind " + kind, x.told(0, 0, 0, 2) > 0 ? 1 : 0, may ? 1 : 0);
                }
            }
        }
    }

    private static int drag(int kind, int weight, int number) {
        int[] drags = {2 * weight, 2 * weight + number, (2 * weight + number) / 4, number, (2 * weight + number) / 4 / 2, 0};
        return drags[kind];
    }

    private static void dragsAreCut() {
        checks.says("DRAG of a STONE: HOW: twice WEIGHT; GUST: as a HOW, and NUMBER more; RAFT: a fourth (cut) of a GUST's; "
            + "WHOLE: NUMBER alone; PANES: half (cut) of a RAFT's; SLOPE: 0.");
        for (int kind = 0; kind <= 5; kind++) {
            for (int weight = 1; weight <= 99; weight++) {
                for (int number = 0; number <= 20; number++) {
                    due("kind " + kind + ", weight " + weight + ", number " + number,
                        lake(weight, kind, number, 0).told(0, 0, 0, 1), drag(kind, weight, number));
                }
            }
        }
    }

    private static void pushesBegin() {
        checks.says("PUSHES a STONE on a NIGHT (squares): 0, if it MAY not");
        for (int kind = 0; kind <= 5; kind++) {
            WalkingStones x = lake(1, kind, 20, 9990);
            rule(x, "add 9;call 0;worth 0;");
            due("dry, kind " + kind, x.told(0, 0, 0, 2), 0);
        }
        checks.says("Quotients are cut toward 0.");
        due("9 less than its drag", lake(5, 0, 0, 10010).told(0, 0, 0, 2), 0);
        due("19 more than its drag", lake(5, 0, 0, 10290).told(0, 0, 0, 2), 1);
        checks.says("HOW: (WIND less DRAG) by 10 (cut), 0 at least");
        int[] ices = {0, 0, 4, 6, 4};
        int[] weights = {1, 2, 5, 20, 44, 45, 99};
        for (int kind = 0; kind <= 4; kind++) {
            for (int weight : weights) {
                int drag = drag(kind, weight, 3);
                int first = kind == 4 ? 2 : 1;
                for (int wind = Math.max(0, drag - 21); wind <= Math.min(99, drag + 21); wind++) {
                    int bare = wind < drag ? 0 : (wind - drag) / 10;
                    int due = bare == 0 ? 0 : bare + first - 1;
                    due("kind " + kind + ", weight " + weight + ", wind " + wind + " for drag " + drag,
                        lake(weight, kind, 3, 10000 + 1000 * ices[kind] + 10 * wind).told(0, 0, 0, 2), due);
                }
            }
        }
        checks.says("PANES: as a RAFT, and 1 more, if that is above 0");
        due("9 above its drag", lake(2, 4, 4, 11000 + 10 * 10).told(0, 0, 0, 2), 0);
        due("10 above its drag", lake(2, 4, 4, 11000 + 10 * 11).told(0, 0, 0, 2), 2);
    }

    private static void pushesEnd() {
        checks.says("WHOLE: as a RAFT (by its own DRAG), 9 at most");
        due("99 less 0", lake(99, 3, 0, 19990).told(0, 0, 0, 2), 9);
        due("99 less 9", lake(99, 3, 9, 19990).told(0, 0, 0, 2), 9);
        due("99 less 10", lake(99, 3, 10, 19990).told(0, 0, 0, 2), 8);
        due("99 less 20", lake(99, 3, 20, 19990).told(0, 0, 0, 2), 7);
        due("panes may go 10", lake(1, 4, 0, 14990).told(0, 0, 0, 2), 10);
        WalkingStones x = lake(1, 3, 0, 19990);
        rule(x, "add 9;call 0;worth 0;");
        due("9 and 9", x.told(0, 0, 0, 2), 18);
        WalkingStones y = lake(1, 4, 0, 14990);
        rule(y, "add 9;call 0;worth 0;");
        due("10 and 9", y.told(0, 0, 0, 2), 19);
    }

    private static void slopes() {
        checks.says("SLOPE: 1, if NUMBER is above WEIGHT by 5 (cut), else 0, and always by WAY 1.");
        for (int number = 0; number <= 20; number++) {
            for (int weight = 1; weight <= 99; weight++) {
                due("number " + number + ", weight " + weight, lake(weight, 5, number, 10000).told(0, 0, 0, 2), number * 5 > weight
                    - weight % 5 ? 1 : 0);
            }
        }
        for (int way = 0; way < 4; way++) {
            due("way " + way, lake(1, 5, 20, 10990 + way).run(0, 0, 0, 1), MIDDLE + 64);
            due("way " + way, lake(1, 0, 20, 10990 + way).run(0, 0, 0, 1), MIDDLE + 9 * STRIDES[way]);
        }
    }

    private static void needs() {
        checks.says("the least WIND (0 .. 99) by which a HOW PUSHES a STONE at all on a NIGHT as it is else; NONE.");
        int[] ices = {0, 0, 4, 6, 4};
        for (int kind = 0; kind <= 4; kind++) {
            for (int weight = 1; weight <= 99; weight++) {
                int least = drag(kind, weight, 1) + 10;
                due("kind " + kind + ", weight " + weight, lake(weight, kind, 1, 10000 + 1000 * ices[kind]).needs(0, 0, 0),
                    least > 99 ? -1 : least);
            }
        }
        due("slope needs none", lake(99, 5, 20, 10000).needs(0, 0, 0), 0);
        due("slope that never pushes", lake(99, 5, 19, 10000).needs(0, 0, 0), -1);
        due("dry", lake(1, 5, 20, 9990).needs(0, 0, 0), -1);
        due("wind 89 is needed", lake(39, 1, 1, 10000).needs(0, 0, 0), 89);
        due("wind 99 is needed", lake(44, 1, 1, 10000).needs(0, 0, 0), 99);
        due("wind 100 would be", lake(45, 0, 1, 10000).needs(0, 0, 0), -1);
        WalkingStones x = lake(1, 5, 20, 10990);
        rule(x, "add -(wind<99);call 0;worth 0;");
        due("add takes all but at 99", x.needs(0, 0, 0), 99);
        rule(x, "add -(wind<100);call 0;worth 0;");
        due("add takes all", x.needs(0, 0, 0), -1);
        rule(x, "add -(0<wind);call 0;worth 0;");
        due("add takes all but at 0", x.needs(0, 0, 0), 0);
        due("the night is as it was", x.told(0, 0, 0, 2), 0);
    }

    private static void edgesOfTheLake() {
        checks.says("as long as the next square is on THE LAKE, and no other STONE lies there (as it is then).");
        for (int way = 0; way < 4; way++) {
            for (int off = 0; off <= 12; off++) {
                int along = way < 2 ? 63 - off : off;
                int place = way % 2 == 0 ? 64 * 17 + along : 64 * along + 17;
                WalkingStones x = new WalkingStones();
                x.stone(1, place);
                x.how(0, 0);
                x.night(10990 + way);
                int went = Math.min(9, off);
                due("way " + way + ", " + off + " from the edge", x.run(0, 0, 0, 0), went);
                due("where", x.run(0, 0, 0, 1), place + went * STRIDES[way]);
                due("when", x.when(0, 0), went > 0 ? 1 : 0);
                due("foretold", x.foretold(0, 0), went > 0 ? 1 : 0);
                due("pushed all the same", x.told(0, 0, 0, 2), 9);
                due("seldom all the same", x.seldom(0, 0), 1);
            }
        }
        int[] corners = {0, 63, 64 * 63, 4095};
        int[] open = {3, 6, 9, 12};
        for (int i = 0; i < 4; i++) {
            WalkingStones x = new WalkingStones();
            x.stone(1, corners[i]);
            x.how(0, 0);
            for (int way = 0; way < 4; way++) {
                x.night(10990 + way);
            }
            due("corner " + corners[i], x.when(0, 0), open[i]);
        }
    }

    private static void stonesInTheWay() {
        checks.says("and no other STONE lies there (as it is then).");
        for (int way = 0; way < 4; way++) {
            for (int off = 1; off <= 11; off++) {
                WalkingStones x = new WalkingStones();
                x.stone(1, MIDDLE);
                x.stone(99, MIDDLE + off * STRIDES[way]);
                x.how(0, 0);
                x.night(10990 + way);
                int went = Math.min(9, off - 1);
                due("way " + way + ", a stone " + off + " ahead", x.run(0, 0, 0, 0), went);
                due("when", x.when(0, 0), went > 0 ? 1 : 0);
                due("the other one is too heavy", x.run(0, 0, 1, 0), 0);
            }
            WalkingStones y = new WalkingStones();
            y.stone(1, MIDDLE);
            y.stone(99, MIDDLE - STRIDES[way]);
            y.stone(99, MIDDLE + 5 * STRIDES[way] + STRIDES[(way + 1) % 4]);
            y.stone(99, MIDDLE + 5 * STRIDES[way] - STRIDES[(way + 1) % 4]);
            y.stone(99, MIDDLE + 10 * STRIDES[way]);
            y.how(0, 0);
            y.night(10990 + way);
            due("behind, beside, beyond are not in the way " + way, y.run(0, 0, 0, 0), 9);
        }
        for (int way = 0; way < 4; way++) {
            for (int off = 1; off <= 5; off++) {
                int edge = way % 2 == 0 ? 64 * 20 + (way < 2 ? 63 : 0) : 64 * (way < 2 ? 63 : 0) + 20;
                WalkingStones x = new WalkingStones();
                x.stone(1, edge - off * STRIDES[way]);
                x.stone(99, edge);
                x.how(0, 0);
                x.night(10990 + way);
                due("a stone at the edge, " + off + " off by way " + way, x.run(0, 0, 0, 0), off - 1);
            }
        }
        WalkingStones z = new WalkingStones();
        z.stone(1, 63);
        z.stone(99, 64);
        z.how(0, 0);
        z.night(10990);
        z.night(10992);
        due("the next row's first square is not ahead of 63", z.run(0, 0, 0, 0), 0);
        due("but 62 is behind it", z.run(0, 101, 0, 0), 9);
    }

    private static void stonesByNumbers() {
        checks.says("NIGHT by NIGHT, STONES by numbers");
        WalkingStones x = new WalkingStones();
        x.stone(1, 32);
        x.stone(1, 31);
        x.stone(1, 33);
        x.how(0, 0);
        x.night(10320);
        due("stone 0 is held by 2, that goes later", x.run(0, 0, 0, 0), 0);
        due("stone 1 is held by 0", x.run(0, 0, 1, 0), 0);
        due("stone 2 goes", x.run(0, 0, 2, 0), 3);
        x.night(10320);
        due("the next night stone 0 goes", x.run(0, 1, 0, 0), 3);
        due("and stone 1 behind it", x.run(0, 1, 1, 0), 3);
        due("stone 2 goes on", x.run(0, 1, 2, 0), 6);
    }

    private static void turns() {
        checks.says("TURNS: how often it went by another WAY than the last time that it went.");
        int[][] ways = {{0}, {0, 0}, {0, 1}, {0, 2}, {0, 1, 0}, {3, 3, 2, 2, 1}, {0, 1, 2, 3}};
        int[] due = {0, 0, 1, 1, 2, 2, 3};
        for (int i = 0; i < ways.length; i++) {
            WalkingStones x = new WalkingStones();
            x.stone(1, MIDDLE);
            x.how(0, 0);
            for (int way : ways[i]) {
                x.night(10120 + way);
            }
            due("turns of row " + i, x.run(0, ways[i].length - 1, 0, 2), due[i]);
        }
        WalkingStones y = new WalkingStones();
        y.stone(1, 0);
        y.how(0, 0);
        int[] weathers = {10122, 10123, 10120, 10110, 10111, 10123, 10122, 10122, 10121};
        int[] turned = {0, 0, 0, 0, 0, 0, 1, 1, 2};
        int[] went = {0, 0, 1, 1, 1, 1, 2, 2, 3};
        for (int night = 0; night < weathers.length; night++) {
            y.night(weathers[night]);
            due("barred or not pushed is no going, night " + night, y.run(0, night, 0, 2), turned[night]);
            due("went", y.run(0, night, 0, 0), went[night]);
        }
        due("a run begins anew", y.run(0, 808, 0, 2), 0);
        due("59 turns", onAndBack(60).run(0, 59, 0, 2), 59);
    }

    private static WalkingStones onAndBack(int nights) {
        WalkingStones x = new WalkingStones();
        x.stone(1, MIDDLE);
        x.how(0, 0);
        for (int i = 0; i < nights; i++) {
            x.night(10120 + 2 * (i % 2));
        }
        return x;
    }

    private static void laid() {
        checks.says("A RUN is LAID: how many squares all STONES went.");
        WalkingStones x = onAndBack(60);
        due("there and back", x.lay(0, 59), 60);
        due("lies where it lay", x.stoneTold(0, 1), MIDDLE);
        due("one night", x.lay(0, 5858), 1);
        due("lies there", x.stoneTold(0, 1), MIDDLE + 1);
        due("another one", x.lay(0, 5858), 1);
        due("lies there", x.stoneTold(0, 1), MIDDLE + 2);
        due("a stone has no room there", x.stone(1, MIDDLE + 2), -3);
        due("but here", x.stone(1, MIDDLE), 1);
        due("both go", x.lay(0, 5858), 2);
    }

    private static WalkingStones tracked(int[][] tracks) {
        WalkingStones x = new WalkingStones();
        x.stone(1, 0);
        x.how(0, 0);
        for (int[] track : tracks) {
            x.track(0, track[0], track[1]);
        }
        return x;
    }

    private static void together() {
        checks.says("TOGETHER are two, if TURNS are alike, and LONG differs by no more than a number (0 .. 99).");
        WalkingStones x = tracked(new int[][] {{0, 0}, {99, 0}, {100, 0}, {999, 99}, {900, 99}, {899, 99}, {0, 1}});
        due("99 off by 99", x.together(0, 1, 99), 1);
        due("99 off by 98", x.together(0, 1, 98), 0);
        due("100 off by 99", x.together(0, 2, 99), 0);
        due("the longest", x.together(3, 4, 99), 1);
        due("the longest, the other way about", x.together(4, 3, 98), 0);
        due("100 off", x.together(5, 3, 99), 0);
        due("turns 0 and 1", x.together(0, 6, 99), 0);
        WalkingStones y = tracked(new int[][] {{50, 3}, {50, 3}, {51, 3}});
        due("alike by 0", y.together(0, 1, 0), 1);
        due("1 off by 0", y.together(1, 2, 0), 0);
        due("1 off by 1", y.together(2, 1, 1), 1);
    }

    private static void groups() {
        checks.says("as those that are TOGETHER with one are of its GROUP, and so on.");
        WalkingStones x = tracked(new int[][] {{0, 0}, {20, 0}, {10, 0}, {31, 0}, {10, 1}, {10, 1}});
        int[] offs = {0, 9, 10, 11, 99};
        int[] due = {5, 5, 3, 2, 2};
        for (int i = 0; i < offs.length; i++) {
            due("by " + offs[i], x.groups(offs[i]), due[i]);
        }
        int[][] ends = new int[24][2];
        for (int i = 0; i < 24; i++) {
            ends[i][0] = i % 2 == 0 ? 5 * i : 5 * (24 - i);
        }
        due("all in a row of fives, told from both ends", tracked(ends).groups(10), 1);
        due("24 of their own", tracked(ends).groups(4), 24 - alike(ends));
    }

    private static int alike(int[][] tracks) {
        int many = 0;
        for (int i = 0; i < tracks.length; i++) {
            for (int j = 0; j < i; j++) {
                if (tracks[i][0] == tracks[j][0]) {
                    many++;
                    break;
                }
            }
        }
        return many;
    }

    private static void fits() {
        checks.says("9 less the difference of LONG and WENT, less 3 times that of TURNS, 1 at least.");
        WalkingStones x = onAndBack(12);
        // It went 12 squares with 11 turns.
        int[][] tracks = {{12, 11, 9}, {11, 11, 8}, {13, 11, 8}, {4, 11, 1}, {5, 11, 2}, {3, 11, 1}, {20, 11, 1}, {19, 11, 2},
            {12, 10, 6}, {12, 12, 6}, {12, 9, 3}, {12, 13, 3}, {12, 8, 1}, {12, 14, 1}, {13, 13, 2}, {14, 13, 1}, {0, 0, 1},
            {999, 99, 1}, {0, 99, 1}, {999, 0, 1}};
        for (int i = 0; i < tracks.length; i++) {
            x.track(0, tracks[i][0], tracks[i][1]);
            due("LONG " + tracks[i][0] + ", TURNS " + tracks[i][1], x.fits(i, 0), tracks[i][2]);
        }
    }

    private static void fitsByStones() {
        checks.says("TRACKS (24 at most, numbered from 0): a STONE, how LONG (0 .. 999), how many TURNS (0 .. 99).");
        WalkingStones x = new WalkingStones();
        for (int i = 0; i < 10; i++) {
            x.stone(1 + 5 * i, 64 * i);
        }
        x.how(0, 0);
        x.night(10990);
        for (int i = 0; i < 10; i++) {
            x.track(i, (99 - 2 - 10 * i) / 10, 0);
            due("track of stone " + i, x.fits(i, 0), 9);
        }
    }

    /** Each of 16 tracks fits eight hows by numbers of their own: sums far above what 32 bits, or a double, hold. */
    private static void oddsExactly() {
        checks.says("ODDS: part 0 above, 1 below the line, in lowest terms.");
        for (int seed = 0; seed < 24; seed++) {
            WalkingStones x = new WalkingStones();
            x.stone(1, 0);
            x.night(16990);
            for (int how = 0; how < 8; how++) {
                x.how(how % 2 == 0 ? 3 : 1, (how * 3 + seed) % 21);
            }
            for (int track = 0; track < 24; track++) {
                x.track(0, seed % 3 == 0 ? 8 : 6 + (track * seed) % 4, 0);
            }
            int[] bits = {65535, 1, 32768, 43690, 255, 0};
            for (int set : bits) {
                oddsOf(x, seed % 8, set);
            }
        }
    }

    private static void oddsOf(WalkingStones x, int how, int bits) {
        BigInteger all = BigInteger.ZERO;
        BigInteger own = BigInteger.ZERO;
        for (int each = 0; each < 8; each++) {
            BigInteger product = BigInteger.ONE;
            for (int track = 0; track < 16; track++) {
                if ((bits >> track & 1) == 1) {
                    product = product.multiply(BigInteger.valueOf(x.fits(track, each)));
                }
            }
            all = all.add(product);
            own = each == how ? product : own;
        }
        BigInteger divisor = all.gcd(own);
        due("above, bits " + bits, x.odds(how, bits, 0), own.divide(divisor).longValueExact());
        due("below, bits " + bits, x.odds(how, bits, 1), all.divide(divisor).longValueExact());
    }

    private static void pegsNearEnough() {
        checks.says("if there is one whose y is 1 to so many less, one whose y is so much more, one whose x is so much less, one "
            + "whose x is so much more.");
        for (int side = 0; side < 4; side++) {
            for (int off = -3; off <= 30; off++) {
                WalkingStones x = new WalkingStones();
                x.stone(1, MIDDLE);
                for (int other = 0; other < 4; other++) {
                    int far = other == side ? off : 1;
                    x.peg(MIDDLE + far * STRIDES[other]);
                }
                for (int by = 0; by <= 31; by++) {
                    due("side " + side + " off by " + off + ", by " + by, x.holds(0, by), by >= 1 && off >= 1 && off <= by ? 1 : 0);
                }
            }
        }
        WalkingStones y = new WalkingStones();
        y.stone(1, 64 + 1);
        y.peg(0);
        y.peg(4095);
        due("62 off by 63", y.holds(0, 63), 1);
        due("62 off by 62", y.holds(0, 62), 1);
        due("62 off by 61", y.holds(0, 61), 0);
        due("by 0 none", y.holds(0, 0), 0);
        y.stone(1, 0);
        due("none less at the edge", y.holds(1, 63), 0);
    }

    private static void bars() {
        checks.says("how many STONES that are so held lie behind a RUN by a HOW where x or y is less than the least or more than the "
            + "greatest of all PEGS.");
        for (int way = 0; way < 4; way++) {
            for (int went = 0; went <= 6; went++) {
                WalkingStones x = new WalkingStones();
                x.stone(1, MIDDLE);
                x.how(0, 0);
                x.peg(MIDDLE - 3 - 3 * 64);
                x.peg(MIDDLE + 3 + 3 * 64);
                x.peg(MIDDLE);
                x.night(10020 + 100 * went + way);
                due("way " + way + ", went " + went, x.bars(0, 3), went > 3 ? 1 : 0);
                due("held by less", x.bars(0, 2), 0);
                due("held by 0", x.bars(0, 0), 0);
            }
        }
        WalkingStones y = new WalkingStones();
        y.stone(1, 0);
        y.stone(1, 64 * 40 + 40);
        y.how(0, 0);
        y.peg(64 * 10 + 10);
        y.peg(64 * 20 + 20);
        y.night(10000);
        due("beyond, but not held", y.bars(0, 63), 0);
    }

    /** Nights that push or don't, as told by letters. */
    private static WalkingStones nights(String row) {
        WalkingStones x = new WalkingStones();
        x.stone(1, 0);
        x.how(0, 0);
        for (int i = 0; i < row.length(); i++) {
            x.night(row.charAt(i) == 'p' ? 10120 : 10110);
        }
        return x;
    }

    private static void seldomRows() {
        checks.says("how many; the longest row of NIGHTS without");
        String[] rows = {"", "p", "-", "-p", "p-", "--p", "p--", "-p--", "--p-", "p-p--p---", "---p--p-p", "-p-p-p-", "ppp", "---",
            "p".repeat(60), "-".repeat(60), "-".repeat(59) + "p", "p" + "-".repeat(59), "-".repeat(30) + "p" + "-".repeat(29),
            "-".repeat(29) + "p" + "-".repeat(30)};
        int[] longest = {0, 0, 1, 1, 1, 2, 2, 2, 2, 3, 3, 1, 0, 3, 0, 60, 59, 59, 30, 30};
        for (int i = 0; i < rows.length; i++) {
            WalkingStones x = nights(rows[i]);
            due("how many of " + rows[i], x.seldom(0, 0), rows[i].chars().filter(c -> c == 'p').count());
            due("row of " + rows[i], x.seldom(0, 1), longest[i]);
        }
        checks.says("NIGHTS on which it PUSHES some STONE (whether that can go or not)");
        WalkingStones x = new WalkingStones();
        x.stone(99, 5);
        x.stone(99, 6);
        x.stone(1, 63);
        x.how(0, 0);
        x.night(10120);
        due("the last stone alone, that can't go", x.seldom(0, 0), 1);
        due("it can't", x.when(0, 2), 0);
    }

    private static void waits() {
        checks.says("WAIT: all NIGHTS by how many (a fraction; 0 by 1, if none).");
        int[][] due = {{0, 0, 0, 1}, {1, 0, 0, 1}, {60, 0, 0, 1}, {1, 1, 1, 1}, {2, 1, 2, 1}, {4, 2, 2, 1}, {6, 4, 3, 2}, {7, 3, 7, 3},
            {60, 1, 60, 1}, {60, 60, 1, 1}, {60, 59, 60, 59}, {60, 45, 4, 3}, {59, 60 - 1, 1, 1}};
        for (int[] row : due) {
            WalkingStones x = nights("p".repeat(row[1]) + "-".repeat(row[0] - row[1]));
            due(row[0] + " by " + row[1] + ", above", x.seldom(0, 2), row[2]);
            due(row[0] + " by " + row[1] + ", below", x.seldom(0, 3), row[3]);
        }
    }

    private static void whenBits() {
        checks.says("WHEN: NIGHTS (bits) on which a STONE is PUSHED by a HOW, and can go one square at least, as all lie now.");
        for (int night = 0; night < 60; night++) {
            StringBuilder row = new StringBuilder("-".repeat(60));
            row.setCharAt(night, 'p');
            due("night " + night + " alone", nights(row.toString()).when(0, 0), 1L << night);
        }
        due("all", nights("p".repeat(60)).when(0, 0), (1L << 60) - 1);
        due("none", nights("-".repeat(60)).when(0, 0), 0);
        WalkingStones x = new WalkingStones();
        x.stone(1, 0);
        x.stone(1, 1);
        x.how(0, 0);
        x.night(10120);
        due("barred now", x.when(0, 0), 0);
        x.lay(0, 0);
        due("no longer", x.when(0, 0), 1);
    }

    private static void orders() {
        checks.says("place by place the least that isn't placed yet and lies over none that isn't: the i-th (NONE: there is none such at "
            + "that place, or ahead).");
        orderOf(new int[][] {}, 0, 1, 2, 3, 4);
        orderOf(new int[][] {{0, 4}}, 1, 2, 3, 4, 0);
        orderOf(new int[][] {{4, 0}}, 0, 1, 2, 3, 4);
        orderOf(new int[][] {{0, 1}, {1, 2}, {2, 3}, {3, 4}}, 4, 3, 2, 1, 0);
        orderOf(new int[][] {{0, 1}, {0, 2}, {0, 3}}, 1, 2, 3, 0, 4);
        orderOf(new int[][] {{0, 1}, {1, 0}}, 2, 3, 4, -1, -1);
        orderOf(new int[][] {{4, 3}, {3, 4}}, 0, 1, 2, -1, -1);
        orderOf(new int[][] {{0, 1}, {1, 0}, {2, 0}, {3, 1}, {4, 2}}, -1, -1, -1, -1, -1);
        orderOf(new int[][] {{2, 1}, {1, 2}, {3, 2}}, 0, 4, -1, -1, -1);
        orderOf(new int[][] {{2, 1}, {2, 1}, {2, 1}}, 0, 1, 2, 3, 4);
        orderOf(new int[][] {{1, 4}, {1, 4}}, 0, 2, 3, 4, 1);
    }

    private static void orderOf(int[][] crosses, int... due) {
        WalkingStones x = tracked(new int[5][2]);
        for (int i = 0; i < crosses.length; i++) {
            due("cross, how many", x.cross(crosses[i][0], crosses[i][1]), i + 1);
        }
        for (int i = 0; i < 5; i++) {
            due("place " + i + " of " + Arrays.deepToString(crosses), x.order(i), due[i]);
        }
    }

    private static void lookCosts() {
        checks.says("each NIGHT of the first 12 costs 3 and its ICE");
        for (int ice = 0; ice <= 9; ice++) {
            for (int coin = 0; coin <= 14; coin++) {
                WalkingStones x = new WalkingStones();
                x.night(1000 * ice + 70);
                boolean looks = coin >= 3 + ice;
                due("ice " + ice + ", coin " + coin, x.look(coin, 0), looks ? 1 : 0);
                due("worth", x.look(coin, 1), looks ? 7 : 0);
                due("coin", x.look(coin, 2), looks ? 3 + ice : 0);
            }
        }
        WalkingStones x = new WalkingStones();
        for (int i = 0; i < 12; i++) {
            x.night(i < 9 ? 5990 : 6010);
        }
        due("99 coin: 8 by 9 and 3 by 8, or 9 by 8 and 3 by 9", x.look(99, 0), 4095);
        due("worth", x.look(99, 1), 9 * 99 + 3);
        due("costs 99 to the last", x.look(99, 2), 99);
        due("98: one less", x.look(98, 0), 511 + 512 + 1024);
        due("coin", x.look(98, 2), 90);
        due("90", x.look(90, 0), 511 + 512 + 1024);
        due("89", x.look(89, 0), 511 + 512);
    }

    private static void lookTies() {
        checks.says("the set (bits) of most worth together; of like ones the least coin, then the least as bits.");
        looked(new int[] {100, 100}, 3, 1, 10, 3);
        looked(new int[] {1100, 100}, 4, 2, 10, 3);
        looked(new int[] {1100, 100}, 3, 2, 10, 3);
        looked(new int[] {1100, 1100, 1100}, 4, 1, 10, 4);
        looked(new int[] {0, 0, 0}, 99, 0, 0, 0);
        looked(new int[] {0, 10, 0}, 99, 2, 1, 3);
        looked(new int[] {100, 100, 200}, 6, 5, 30, 6);
        looked(new int[] {3200, 100, 100}, 6, 1, 20, 6);
        looked(new int[] {3200, 100, 100}, 7, 1, 20, 6);
        looked(new int[] {100, 100, 3200}, 6, 3, 20, 6);
        looked(new int[] {100, 3200, 100}, 6, 2, 20, 6);
        looked(new int[] {4200, 100, 100}, 7, 6, 20, 6);
        looked(new int[] {200, 3100, 100}, 9, 5, 30, 6);
        looked(new int[] {3200, 3200, 100, 100, 100, 100}, 12, 3, 40, 12);
        looked(new int[] {100, 100, 100, 100, 3200, 3200}, 12, 15, 40, 12);
        looked(new int[] {100, 3200, 100, 100, 3200, 100}, 12, 7, 40, 12);
    }

    private static void looked(int[] weathers, int coin, int bits, int worth, int spent) {
        WalkingStones x = new WalkingStones();
        for (int weather : weathers) {
            x.night(weather);
        }
        String of = Arrays.toString(weathers) + " for " + coin;
        due("bits of " + of, x.look(coin, 0), bits);
        due("worth of " + of, x.look(coin, 1), worth);
        due("coin of " + of, x.look(coin, 2), spent);
    }

    private static void lookFirstTwelve() {
        checks.says("each NIGHT of the first 12 costs 3 and its ICE");
        for (int n = 0; n <= 16; n++) {
            WalkingStones x = new WalkingStones();
            for (int i = 0; i < n; i++) {
                x.night(i < 12 ? 10 : 990);
            }
            int seen = Math.min(12, n);
            due("nights of " + n, x.look(99, 0), (1 << seen) - 1);
            due("worth of " + n, x.look(99, 1), seen);
            due("coin of " + n, x.look(99, 2), 3 * seen);
        }
    }

    private static void looksOneByOne() {
        checks.says("LOOK: the NIGHTS (what 0), worth (1), coin (2).");
        for (int n = 0; n <= 13; n++) {
            WalkingStones x = new WalkingStones();
            for (int i = 0; i < n; i++) {
                x.night(0);
            }
            rule(x, "add 0;call 0;worth 1;");
            due("no night that isn't there, of " + n, x.look(99, 0), (1 << Math.min(12, n)) - 1);
        }
        WalkingStones y = new WalkingStones();
        for (int i = 0; i < 12; i++) {
            y.night(i < 9 ? 5990 : 6990);
        }
        due("a look that costs 99", y.look(99, 1), 12 * 99);
        rule(y, "add 0;call 0;worth night=0;");
        due("is nothing to the next one", y.look(99, 1), 1);
        due("nor its nights", y.look(99, 0), 1);
        due("nor its coin", y.look(99, 2), 8);
    }

    private static void foretoldBits() {
        checks.says("STONES (bits) of which WHEN has that NIGHT");
        for (int stone = 0; stone < 10; stone++) {
            WalkingStones x = new WalkingStones();
            for (int i = 0; i < 10; i++) {
                x.stone(i == stone ? 1 : 99, 64 * i);
            }
            x.how(0, 0);
            x.night(10990);
            due("stone " + stone + " alone", x.foretold(0, 0), 1 << stone);
        }
    }

    private static void held() {
        checks.says("a SHEET (for each STONE 1 or 0) HELD: the first STONE of which it isn't so; NONE.");
        for (int sort = 0; sort <= 2; sort++) {
            WalkingStones x = new WalkingStones();
            for (int i = 0; i < 10; i++) {
                x.stone(i % 3 == 0 ? 1 : 99, 64 * i);
            }
            x.how(0, 0);
            x.night(10990);
            x.sheet(0, sort, 10);
            for (int i = 0; i < 10; i++) {
                x.cell(0, i, i % 3 == 0 ? 1 : 0);
            }
            due("all so", x.held(0, 0, 0), -1);
            for (int i = 9; i >= 0; i--) {
                int[] wrong = {i % 3 == 0 ? 0 : 1, 2, -1, 127};
                for (int value : wrong) {
                    x.cell(0, i, value);
                    due("first " + i + " by " + value, x.held(0, 0, 0), i);
                }
            }
        }
    }

    private static void images() {
        checks.says("AN IMAGE keeps where STONES lie, THE RULE, how many TRACKS, CROSS, PEGS (STONES that came since stay as they are; "
            + "two may lie at one place then).");
        WalkingStones x = Lakes.some();
        int[] now = {3, 4, 6, 3, 3, 2, 3, 21, 2};
        int[] then = {3, 4, 6, 3, 3, 1, 3, 21, 1};
        for (int what = 0; what <= 8; what++) {
            due("ahead, count(" + what + ")", x.count(what), now[what]);
        }
        due("stone 0 went", x.stoneTold(0, 1), 651);
        due("back", x.back(), 3);
        for (int what = 0; what <= 8; what++) {
            due("behind, count(" + what + ")", x.count(what), then[what]);
        }
        due("stone 0 lies there again", x.stoneTold(0, 1), 650);
        for (int came = 0; came <= 10; came++) {
            WalkingStones y = Lakes.withStones(came);
            due("image of " + came, y.image(), came);
            y.how(0, 0);
            y.night(10990);
            for (int i = came; i < 10; i++) {
                y.stone(1, 64 * 6 * i + 30 + i);
            }
            y.lay(0, 0);
            due("back", y.back(), 10);
            for (int i = 0; i < 10; i++) {
                due("stone " + i + " of " + came, y.stoneTold(i, 1), 64 * 6 * i + 30 + i + (i < came ? 0 : 9));
            }
        }
        checks.says("AN IMAGE is kept: how many STONES.");
        WalkingStones z = Lakes.withStones(1);
        z.peg(1);
        due("first", z.image(), 1);
        z.peg(2);
        due("a second one takes its place", z.image(), 1);
        z.peg(3);
        z.back();
        due("as in the second one", z.count(4), 2);
    }

    private static void twoAtOnePlace() {
        checks.says("two may lie at one place then");
        for (int way = 0; way < 4; way++) {
            WalkingStones x = new WalkingStones();
            x.stone(1, MIDDLE);
            x.how(0, 0);
            x.night(10990 + way);
            x.image();
            x.lay(0, 0);
            due("a new one where it lay", x.stone(1, MIDDLE), 1);
            due("back", x.back(), 2);
            due("no third one", x.stone(1, MIDDLE), -3);
            due("each can go", x.foretold(0, 0), 3);
            due("the first goes", x.run(0, 0, 0, 0), 9);
            due("the second one stops behind it", x.run(0, 0, 1, 0), 8);
            due("both", x.lay(0, 0), 17);
            due("apart", x.stoneTold(1, 1), MIDDLE + 8 * STRIDES[way]);
        }
        WalkingStones y = new WalkingStones();
        y.stone(1, MIDDLE);
        y.stone(1, MIDDLE - 5);
        y.how(0, 0);
        y.night(10990);
        y.image();
        y.lay(0, 0);
        y.stone(1, MIDDLE);
        y.back();
        due("of two at one place the one goes on", y.run(0, 0, 0, 1), MIDDLE + 9);
        due("the other one still bars who comes behind", y.run(0, 0, 1, 1), MIDDLE - 1);
    }

    /** A cell's value as a night's weather: none, if it isn't one. */
    private static int nightsOf(int sort, int value) {
        WalkingStones x = new WalkingStones();
        x.sheet(0, sort, 1);
        x.cell(0, 0, value);
        return x.nights(0, sort, 0, 1);
    }

    private static void cellsAreCut() {
        checks.says("(of bytes, shorts its lowest 8, 16 bits)");
        int[] values = {0, 3, 4, 93, 123, 127, 128, 130, 200, 255, 256, 256 + 93, 256 + 130, -1, -128, -129, -253, -256 + 3, 32003,
            32767, 32768, 40000, 65535, 65536, 65536 + 10000, 65536 + 40000, -32768, -32769, -65536 + 10000, 99993, 100000,
            Integer.MIN_VALUE, Integer.MIN_VALUE + 3, Integer.MAX_VALUE};
        for (int value : values) {
            due("byte " + value, nightsOf(0, value), isWeather((byte) value) ? 1 : 0);
            due("short " + value, nightsOf(1, value), isWeather((short) value) ? 1 : 0);
            due("int " + value, nightsOf(2, value), isWeather(value) ? 1 : 0);
        }
    }

    private static boolean isWeather(int value) {
        return value >= 0 && value <= 99999 && value % 10 <= 3;
    }

    private static void copiesAsTheyWere() {
        checks.says("n numbers of a SHEET, from item i on, come to another one's item j on (as they were): n.");
        for (int i = 0; i <= 6; i++) {
            for (int j = 0; j <= 6; j++) {
                for (int n = 0; n <= 6 - Math.max(i, j); n++) {
                    copied(i, j, n, 0);
                    copied(i, j, n, 1);
                }
            }
        }
    }

    private static void copied(int i, int j, int n, int other) {
        WalkingStones x = new WalkingStones();
        int[][] due = new int[2][6];
        for (int sheet = 0; sheet < 2; sheet++) {
            x.sheet(sheet, 2, 6);
            for (int k = 0; k < 6; k++) {
                due[sheet][k] = 10020 + 100 * k + 1000 * sheet;
                x.cell(sheet, k, due[sheet][k]);
            }
        }
        String call = "copy " + i + " " + other + " " + j + " " + n;
        due(call, x.copy(0, i, other, j, n), n);
        System.arraycopy(due[0], i, due[other], j, n);
        x.stone(1, 0);
        x.how(0, 0);
        Checks.read(x, "add -9*ice;call 0;worth 0;");
        for (int sheet = 0; sheet < 2; sheet++) {
            due(call + ", nights", x.nights(sheet, 2, 0, 6), 6);
        }
        for (int k = 0; k < 12; k++) {
            int cell = due[k / 6][k % 6];
            x.force(0);
            due(call + ", wind of item " + k, x.told(0, 0, k, 2), (cell % 1000 / 10 - 2) / 10);
            x.force(1);
            due(call + ", ice of item " + k, x.told(0, 0, k, 2), cell / 1000 % 10 == 0 ? (cell % 1000 / 10 - 2) / 10 : 0);
        }
    }

    private static void nightsLeftOut() {
        checks.says("n of them (0 .. 20): how many came (others are left out).");
        for (int room = 0; room <= 20; room += 4) {
            WalkingStones x = new WalkingStones();
            for (int i = 0; i < 60 - room; i++) {
                x.night(0);
            }
            x.sheet(0, 2, 40);
            for (int i = 0; i < 40; i++) {
                x.cell(0, i, i % 2 == 0 ? 10000 : i % 4 == 1 ? -1 : 100000);
            }
            due("room " + room, x.nights(0, 2, 0, 20), Math.min(10, room));
            due("room " + room + ", more", x.nights(0, 2, 20, 20), Math.max(0, Math.min(10, room - 10)));
            due("none is read behind the end", x.nights(0, 2, 30, 11), -12);
            due("how many", x.count(1), 60 - Math.max(0, room - 20));
        }
        checks.says("-12: what stood ahead came.");
        WalkingStones y = new WalkingStones();
        y.sheet(0, 2, 40);
        int[] from = {Integer.MAX_VALUE, Integer.MAX_VALUE - 5, Integer.MIN_VALUE, -1, -20, 40};
        for (int first : from) {
            due("from " + first, y.nights(0, 2, first, 20), -12);
            due("none came", y.count(1), 0);
            due("from " + first + ", none asked", y.nights(0, 2, first, 0), 0);
        }
        due("from 39", y.nights(0, 2, 39, 2), -12);
        due("one came", y.count(1), 1);
        due("from 20", y.nights(0, 2, 20, 20), 20);
        due("from 21", y.nights(0, 2, 21, 20), -12);
        due("19 came", y.count(1), 40);
    }

    private static void kinds() {
        checks.says("A HOW taken for one of KIND k (0 .. 5), or one under that one (also by others between): its NUMBER.");
        int[][] under = {{0}, {1, 0}, {2, 1, 0}, {3, 2, 1, 0}, {4, 2, 1, 0}, {5, 0}};
        for (int kind = 0; kind <= 5; kind++) {
            for (int k = 0; k <= 5; k++) {
                boolean so = false;
                for (int above : under[kind]) {
                    so = so || above == k;
                }
                for (int number = 0; number <= 20; number += 20) {
                    WalkingStones x = new WalkingStones();
                    x.how(kind, number);
                    due("kind " + kind + " for " + k, x.taken(0, k), so ? number : -13);
                }
            }
        }
    }
}
