/** For each promise of the document: ordinary inputs, the edges that it names, wrong inputs. */
public final class PromisesTest {
    private static final Checks checks = new Checks();
    private static final int MIN = Integer.MIN_VALUE, MAX = Integer.MAX_VALUE;
    private static final int[] WRONG = {-1, MIN, MAX};

    private static void due(String call, long got, long want) {
        checks.due(call, got, want);
    }

    public static void main(String[] args) {
        newObject();
        stones();
        nights();
        hows();
        may();
        drag();
        pushesOfKinds();
        pushesByAdd();
        toldRefused();
        needs();
        feed();
        textsRead();
        textsCompute();
        textFaults();
        textDepth();
        textRoom();
        force();
        runs();
        runStopsAtStones();
        runRefused();
        lay();
        tracks();
        groups();
        fits();
        odds();
        pegs();
        bars();
        seldom();
        called();
        when();
        cross();
        order();
        look();
        foretold();
        held();
        images();
        counts();
        sheets();
        cells();
        copies();
        nightsBySheet();
        taken();
        allFull();
        checks.end();
    }

    private static void newObject() {
        checks.at("1 a new object");
        WalkingStones x = new WalkingStones();
        for (int what = 0; what <= 8; what++) {
            due("count(" + what + ")", x.count(what), what == 6 ? 1 : 0);
        }
        due("stoneTold", x.stoneTold(0, 0), -5);
        due("back", x.back(), -3);
        due("cell", x.cell(0, 0, 0), -11);
    }

    private static void stones() {
        checks.at("2 stone, 5 stoneTold");
        WalkingStones x = new WalkingStones();
        for (int bad : WRONG) {
            due("weight", x.stone(bad, 0), -2);
            due("place", x.stone(1, bad), -2);
        }
        due("weight 0", x.stone(0, 0), -2);
        due("weight 100", x.stone(100, 0), -2);
        due("place 4096", x.stone(1, 4096), -2);
        due("none came", x.count(0), 0);
        due("least", x.stone(1, 0), 0);
        due("most", x.stone(99, 4095), 1);
        due("one lies there", x.stone(5, 4095), -3);
        due("weight bad and one lies there", x.stone(0, 4095), -2);
        for (int i = 2; i < 10; i++) {
            due("more", x.stone(i, 10 * i), i);
        }
        due("full", x.stone(1, 1), -4);
        due("one lies there, ahead of full", x.stone(1, 20), -3);
        due("bad ahead of full", x.stone(1, -1), -2);
        due("weight", x.stoneTold(1, 0), 99);
        due("place", x.stoneTold(1, 1), 4095);
        due("weight", x.stoneTold(9, 0), 9);
        due("place", x.stoneTold(9, 1), 90);
        due("none such", x.stoneTold(10, 0), -5);
        due("what 2", x.stoneTold(0, 2), -5);
        for (int bad : WRONG) {
            due("none such", x.stoneTold(bad, 0), -5);
            due("no such what", x.stoneTold(0, bad), -5);
        }
    }

    private static void nights() {
        checks.at("3 night");
        WalkingStones x = new WalkingStones();
        int[] bad = {-1, -10, 4, 9, 99994, 99999, 100000, 100003, MIN, MAX, 1000000};
        for (int weather : bad) {
            due("night(" + weather + ")", x.night(weather), -2);
        }
        for (int i = 0; i < 60; i++) {
            due("night", x.night(i % 2 == 0 ? 99993 : 0), i);
        }
        due("full", x.night(0), -4);
        due("bad ahead of full", x.night(4), -2);
        due("how many", x.count(1), 60);
    }

    private static void hows() {
        checks.at("4 how");
        WalkingStones x = new WalkingStones();
        for (int bad : WRONG) {
            due("kind", x.how(bad, 0), -2);
            due("number", x.how(0, bad), -2);
        }
        due("kind 6", x.how(6, 0), -2);
        due("number 21", x.how(0, 21), -2);
        for (int i = 0; i < 8; i++) {
            due("how", x.how(i % 6, 20), i);
        }
        due("full", x.how(0, 0), -4);
        due("bad ahead of full", x.how(6, 0), -2);
    }

    /** One stone, one how of each kind with a number, and one night. */
    private static WalkingStones lake(int weight, int number, int weather) {
        WalkingStones x = new WalkingStones();
        x.stone(weight, 32 * 64 + 32);
        for (int kind = 0; kind <= 5; kind++) {
            x.how(kind, number);
        }
        x.night(weather);
        return x;
    }

    private static void may() {
        checks.at("6 told, MAY");
        String[] byIce = {"110001", "110011", "110011", "111011", "111011", "111001", "111101", "111101", "111101", "111101"};
        for (int ice = 0; ice <= 9; ice++) {
            WalkingStones wet = lake(1, 0, 10000 + 1000 * ice);
            WalkingStones dry = lake(1, 0, 1000 * ice + 990);
            for (int kind = 0; kind <= 5; kind++) {
                due("kind " + kind + " ice " + ice, wet.told(kind, 0, 0, 0), byIce[ice].charAt(kind) == '1' ? 1 : 0);
                due("dry, kind " + kind, dry.told(kind, 0, 0, 0), 0);
                due("dry, pushes", dry.told(kind, 0, 0, 2), 0);
            }
        }
    }

    private static void drag() {
        checks.at("6 told, DRAG");
        int[][] due = {{1, 0, 2, 2, 0, 0, 0, 0}, {50, 7, 100, 107, 26, 7, 13, 0}, {99, 20, 198, 218, 54, 20, 27, 0},
            {3, 1, 6, 7, 1, 1, 0, 0}};
        for (int[] row : due) {
            WalkingStones x = lake(row[0], row[1], 0);
            for (int kind = 0; kind <= 5; kind++) {
                due("weight " + row[0] + " number " + row[1] + " kind " + kind, x.told(kind, 0, 0, 1), row[2 + kind]);
            }
        }
    }

    private static void pushesOfKinds() {
        checks.at("6 told, PUSHES");
        WalkingStones x = lake(5, 10, 14500);
        due("how: 50 less 10", x.told(0, 0, 0, 2), 4);
        due("gust: 50 less 20", x.told(1, 0, 0, 2), 3);
        due("raft: 50 less 5", x.told(2, 0, 0, 2), 4);
        due("whole may not", x.told(3, 0, 0, 2), 0);
        due("panes: 50 less 2, and 1 more", x.told(4, 0, 0, 2), 5);
        due("slope", x.told(5, 0, 0, 2), 1);
        due("whole: 99 less 0", lake(99, 0, 19990).told(3, 0, 0, 2), 9);
        due("whole: 99 less 20", lake(99, 20, 19990).told(3, 0, 0, 2), 7);
        due("panes by its own drag: 16 less 6", lake(20, 11, 13160).told(4, 0, 0, 2), 2);
        due("raft there: 16 less 12", lake(20, 11, 13160).told(2, 0, 0, 2), 0);
        due("panes: 9 less 0 is none, so none more", lake(1, 0, 13090).told(4, 0, 0, 2), 0);
        due("how: 9 above", lake(1, 0, 10110).told(0, 0, 0, 2), 0);
        due("how: 10 above", lake(1, 0, 10120).told(0, 0, 0, 2), 1);
        due("how: far below 0", lake(99, 0, 10000).told(0, 0, 0, 2), 0);
        due("slope: 8 is not above 40 by 5", lake(40, 8, 10000).told(5, 0, 0, 2), 0);
        due("slope: 9 is above 44 by 5", lake(44, 9, 10000).told(5, 0, 0, 2), 1);
        due("slope: 0 is not above 4 by 5", lake(4, 0, 10000).told(5, 0, 0, 2), 0);
        due("slope: 1 is above 4 by 5", lake(4, 1, 10000).told(5, 0, 0, 2), 1);
    }

    private static WalkingStones ruled(WalkingStones x, String text) {
        due("text '" + text + "'", Checks.read(x, text), x.count(6) - 1);
        x.force(x.count(6) - 1);
        return x;
    }

    private static void pushesByAdd() {
        checks.at("6 told, add");
        int[][] due = {{2, 6}, {9, 13}, {10, 13}, {9999, 13}};
        for (int[] row : due) {
            due("add " + row[0], ruled(lake(5, 10, 14500), "add " + row[0] + ";call 0;worth 0;").told(0, 0, 0, 2), row[1]);
        }
        due("add -3", ruled(lake(5, 10, 14500), "add -3;call 0;worth 0;").told(0, 0, 0, 2), 1);
        due("add -4", ruled(lake(5, 10, 14500), "add -4;call 0;worth 0;").told(0, 0, 0, 2), 0);
        due("add -99", ruled(lake(1, 0, 19990), "add -99;call 0;worth 0;").told(3, 0, 0, 2), 0);
        due("whole, 9 and 9", ruled(lake(1, 0, 19990), "add 9;call 0;worth 0;").told(3, 0, 0, 2), 18);
        due("none without it", ruled(lake(5, 10, 10190), "add 9;call 0;worth 0;").told(0, 0, 0, 2), 0);
        due("it may not", ruled(lake(5, 10, 990), "add 9;call 0;worth 0;").told(0, 0, 0, 2), 0);
        due("slope", ruled(lake(5, 10, 10000), "add 2;call 0;worth 0;").told(5, 0, 0, 2), 3);
        due("panes", ruled(lake(5, 10, 14500), "add ice;call 0;worth 0;").told(4, 0, 0, 2), 9);
    }

    private static void toldRefused() {
        checks.at("6 told, 7 needs, refused");
        WalkingStones x = lake(5, 5, 10000);
        for (int bad : new int[] {-1, MIN, MAX, 6}) {
            due("how", x.told(bad, 0, 0, 0), -2);
            due("stone", x.told(0, bad, 0, 0), -2);
            due("night", x.told(0, 0, bad, 0), -2);
            due("what", x.told(0, 0, 0, bad), -2);
            due("needs, how", x.needs(bad, 0, 0), -2);
            due("needs, stone", x.needs(0, bad, 0), -2);
            due("needs, night", x.needs(0, 0, bad), -2);
        }
        due("stone 1", x.told(0, 1, 0, 0), -2);
        due("night 1", x.told(0, 0, 1, 0), -2);
        due("what 3", x.told(0, 0, 0, 3), -2);
    }

    private static void needs() {
        checks.at("7 needs");
        WalkingStones x = lake(5, 10, 14000);
        int[] due = {20, 30, 15, -1, 12, 0};
        for (int kind = 0; kind <= 5; kind++) {
            due("kind " + kind, x.needs(kind, 0, 0), due[kind]);
        }
        due("too heavy", lake(45, 0, 10000).needs(0, 0, 0), -1);
        due("just so", lake(44, 0, 10000).needs(0, 0, 0), 98);
        due("the most wind", lake(44, 1, 10000).needs(1, 0, 0), 99);
        due("dry", lake(1, 0, 4990).needs(0, 0, 0), -1);
        due("add takes two", ruled(lake(5, 10, 14000), "add -2;call 0;worth 0;").needs(0, 0, 0), 40);
        due("add by the wind that is tried", ruled(lake(5, 10, 14990), "add 0-9*(wind<47);call 0;worth 0;").needs(0, 0, 0), 47);
        due("nothing changes", x.told(0, 0, 0, 2), 0);
    }

    private static void feed() {
        checks.at("8 feed");
        WalkingStones x = new WalkingStones();
        for (int bad : new int[] {0, -1, 9, MIN, MAX}) {
            due("n " + bad, x.feed(bad, 0), -2);
        }
        due("one", x.feed(1, 0x6161616161616120L), 1);
        due("eight", x.feed(8, 0), 9);
        for (int k = 0; k < 18; k++) {
            x.feed(8, -1);
        }
        due("153", x.count(7), 153);
        due("not eight more", x.feed(8, 0), -4);
        due("bad ahead of full", x.feed(9, 0), -2);
        due("stays", x.count(7), 153);
        due("seven more", x.feed(7, 0), 160);
        due("full", x.feed(1, 32), -4);
        due("the lowest byte was a blank, then 0", x.text(), -101);
        due("empty then", x.count(7), 0);
    }

    private static void textsRead() {
        checks.at("9 text");
        String[] good = {"add 0 ; call 0 < ice ; worth wind ;", "add0;call0;worth0;", "\n add weight;call wet;worth ice; \n",
            "add number;call night;worth((((9999))));", "add not not not not not 1;call - - - - - 1;worth not-not0;"};
        WalkingStones x = new WalkingStones();
        for (int i = 0; i < 4; i++) {
            due(good[i], Checks.read(x, good[i]), i + 1);
            due("empty then", x.count(7), 0);
        }
        due("no 'not' ahead of a ONE", Checks.read(x, good[4]), -100 - good[4].indexOf("not0"));
        due("empty then, too", x.count(7), 0);
        due("texts", x.count(6), 5);
        due("the rule stays", x.count(8), 0);
    }

    /** What an E is, as worth of a look at night 1: wet 2, ice 5, wind 61. */
    private static void value(String e, int want) {
        WalkingStones x = new WalkingStones();
        x.night(14500);
        x.night(25610);
        ruled(x, "add 0;call 0;worth night*(" + e + ");");
        due(e, x.look(99, 1), Math.max(0, Math.min(99, want)));
    }

    private static void textsCompute() {
        checks.at("9 text, what an E is");
        value("1+2*3", 7);
        value("10-2-3", 5);
        value("(10-2)*3", 24);
        value("- 3+5", 2);
        value("-(3-5)", 2);
        value("--7", 7);
        value("3--7", 10);
        value("wet*10+ice", 25);
        value("wind", 61);
        value("weight+number", 0);
        value("night", 1);
        value("1<2", 1);
        value("2<2", 0);
        value("2=2", 1);
        value("2=3", 0);
        value("1+1<1*3", 1);
        value("not 5", 0);
        value("not 0", 1);
        value("not 1<0", 1);
        value("not not 7", 1);
        value("not not 7 and 0", 0);
        value("5 and 7", 1);
        value("5 and 0", 0);
        value("0 or 7", 1);
        value("0 or 0", 0);
        value("1 or 0 and 0", 1);
        value("(1 or 0) and 0", 0);
        value("not 0 or 1", 1);
        value("0=0 and 0<1", 1);
        value("7", 7);
        value("9999", 99);
        value("-1", 0);
        value("9999*9999*43", 4172747);
        value("0-9999*9999*43", -4172747);
        value("9999*9999*22<0", 1);
        value("9999*9999*21<0", 0);
        value("0099", 99);
    }

    private static void fault(String text, int place) {
        WalkingStones x = new WalkingStones();
        due("'" + text + "'", Checks.read(x, text), -100 - place);
        due("empty then", x.count(7), 0);
        due("no text came", x.count(6), 1);
    }

    private static void textFaults() {
        checks.at("9 text, FAULT");
        fault("", 0);
        fault("  ", 2);
        fault("add", 3);
        fault("add ", 4);
        fault("add 0", 5);
        fault("add 0;", 6);
        fault("add 0;call 0;worth 0", 20);
        fault("add 0;call 0;worth 0 ", 21);
        fault("add 0;call 0;worth 0;0", 21);
        fault("add 0;call 0;worth 0; ;", 22);
        fault("call 0;", 0);
        fault("add 0;add 0;", 6);
        fault("add 0;worth 0;", 6);
        fault("addd 0;", 0);
        fault("addz 0;", 0);
        fault("adda 0;", 0);
        fault("xdd 0;", 0);
        fault("ad 0;", 0);
        fault("add ad;", 4);
        fault("add xet;", 4);
        fault("add wxt;", 4);
        fault("add wex;", 4);
        fault("add weightwet;", 4);
        fault("add Wet;", 4);
        fault("add we\tt;", 4);
        fault("add wet\t;", 7);
        fault("add wet\0;", 7);
        fault("add wet\u00e9;", 7);
        fault("add 12345;", 4);
        fault("add 00001;", 4);
        fault("add 1 12345;", 6);
        fault("add 1wet;", 5);
        fault("add wet 1;", 8);
        fault("add ;", 4);
        fault("add );", 4);
        fault("add (1;", 6);
        fault("add (1", 6);
        fault("add 1);", 5);
        fault("add ();", 5);
        fault("add 1+;", 6);
        fault("add +1;", 4);
        fault("add 1**2;", 6);
        fault("add 1<2<3;", 7);
        fault("add 1=2<3;", 7);
        fault("add 1<not 2;", 6);
        fault("add 1+not 2;", 6);
        fault("add -not 2;", 5);
        fault("add 1 not 2;", 6);
        fault("add not;", 7);
        fault("add or 1;", 4);
        fault("add 1 or or 1;", 9);
        fault("add 1 and;", 9);
        fault("add 1,2;", 5);
        fault("add 1>2;", 5);
        fault("add 1/2;", 5);
        fault("add add;", 4);
        fault("add call;", 4);
        fault("add 1 call 2;", 6);
        fault("add x 12345 #;", 4);
        WalkingStones x = new WalkingStones();
        due("two comparisons apart", Checks.read(x, "add 1<2 and 2<3 or (1=2)=(2=3);call 0;worth 0;"), 1);
    }

    private static void textDepth() {
        checks.at("9 text, what is open");
        WalkingStones x = new WalkingStones();
        due("five (", Checks.read(x, "add (((((1)))));call 0;worth 0;"), 1);
        due("five mixed", Checks.read(x, "add not -(-(1));call not(not(not 1));worth 0;"), 2);
        due("closed again", Checks.read(x, "add -1+-1+-1+-1+-1+-1+-(1)*(1)*(1)*(1);call not 1 and not 1 or not 1 and not 1 "
            + "or not 1 and not 1;worth 0;"), 3);
        fault("add ((((((1))))));", 9);
        fault("add ------1;", 9);
        fault("add not not not not not not 1;", 24);
        fault("add not not not not not -1;", 24);
        fault("add not not not not not (1);", 24);
        fault("add -(-(-(1)));", 9);
        fault("add (not (not (not 1)));", 15);
        fault("add not not not not not 1 < -1;", 28);
        fault("add ((((-1*-1+(-1)))));", 15);
        due("not ends at and", Checks.read(x, "add not not not not not 1 and -1;call ((((-1*-1+(1)))));worth 0;"), 4);
        String deep = "1or 1and 1<1+1*(1or 1and 1<1+1*(1or 1and 1<1+1*(1or 1and 1<1+1*(1or 1and 1<1+1*(1or 1and 0<1+1*1)))))";
        WalkingStones y = new WalkingStones();
        y.night(10000);
        ruled(y, "add 0;call 0;worth 0and 0 or " + deep + ";");
        due("all levels wait", y.look(99, 1), 1);
    }

    private static void textRoom() {
        checks.at("9 text, FULL");
        WalkingStones x = new WalkingStones();
        for (int i = 1; i < 6; i++) {
            due("text", Checks.read(x, "add " + i + ";call 0;worth 0;"), i);
        }
        Checks.feed(x, "add 0;");
        due("full", x.text(), -4);
        due("the tape stays", x.count(7), 6);
        due("six", x.count(6), 6);
    }

    private static void force() {
        checks.at("10 force");
        WalkingStones x = lake(5, 10, 14500);
        due("no text 1", x.force(1), -2);
        Checks.read(x, "add 1;call 0;worth 0;");
        Checks.read(x, "add 2;call 0;worth 0;");
        for (int bad : new int[] {-1, 3, MIN, MAX}) {
            due("none such", x.force(bad), -2);
        }
        due("first", x.force(2), 0);
        due("by 2", x.told(0, 0, 0, 2), 6);
        due("then 1", x.force(1), 2);
        due("by 1", x.told(0, 0, 0, 2), 5);
        due("rule", x.count(8), 1);
        due("again", x.force(1), 1);
        due("back to 0", x.force(0), 1);
        due("by 0", x.told(0, 0, 0, 2), 4);
    }

    private static void runs() {
        checks.at("11 run");
        WalkingStones x = new WalkingStones();
        x.stone(5, 32 * 64 + 32);
        x.how(0, 0);
        x.how(5, 20);
        int[] weathers = {10300, 10301, 500, 10301, 10302, 10303, 10100, 10300};
        for (int weather : weathers) {
            x.night(weather);
        }
        due("went", x.run(0, 7, 0, 0), 12);
        due("at: 2 more, 4 down, 2 less, 2 up, 2 more", x.run(0, 7, 0, 1), 34 * 64 + 34);
        due("turns: down, left, up, right", x.run(0, 7, 0, 2), 4);
        due("a night alone", x.run(0, 404, 0, 1), 32 * 64 + 30);
        due("no turn by the first", x.run(0, 404, 0, 2), 0);
        due("a part", x.run(0, 103, 0, 0), 4);
        due("down and down is no turn", x.run(0, 103, 0, 2), 0);
        due("nights without are no turn", x.run(0, 607, 0, 2), 0);
        due("slope always by way 1", x.run(1, 7, 0, 1), 39 * 64 + 32);
        due("slope turns never", x.run(1, 7, 0, 2), 0);
        due("nothing changed", x.stoneTold(0, 1), 32 * 64 + 32);
    }

    private static void runStopsAtStones() {
        checks.at("11 run, the lake's edge and other stones");
        WalkingStones x = new WalkingStones();
        x.stone(1, 62);
        x.stone(1, 60);
        x.stone(1, 64 + 62);
        x.how(0, 0);
        int[] weathers = {10990, 10993, 10992, 10991};
        for (int weather : weathers) {
            x.night(weather);
        }
        due("edge", x.run(0, 0, 0, 1), 63);
        due("behind the other one, as it is then", x.run(0, 0, 1, 1), 62);
        due("other row", x.run(0, 0, 2, 1), 64 + 63);
        due("below the first", x.run(0, 1, 2, 1), 64 + 63);
        due("went 1", x.run(0, 1, 2, 0), 1);
        due("left: stone 0 waits for 1", x.run(0, 2, 0, 1), 63);
        due("left: stone 1 goes", x.run(0, 2, 1, 1), 53);
        due("left: stone 2 goes", x.run(0, 2, 2, 1), 64 + 54);
        due("stone 0 turns once", x.run(0, 3, 0, 2), 1);
        due("stone 1 turns twice", x.run(0, 3, 1, 2), 2);
        due("down", x.run(0, 3, 0, 1), 9 * 64 + 63);
    }

    private static void runRefused() {
        checks.at("11 run, 12 lay, refused");
        WalkingStones x = lake(5, 10, 10500);
        x.night(10500);
        for (int bad : new int[] {-1, MIN, MAX, 2, 100, 200, 102, 201, -99, -100}) {
            due("nights " + bad, x.run(0, bad, 0, 0), -2);
            due("lay, nights " + bad, x.lay(0, bad), -2);
        }
        for (int bad : new int[] {-1, MIN, MAX, 6}) {
            due("how", x.run(bad, 0, 0, 0), -2);
            due("lay, how", x.lay(bad, 0), -2);
            due("stone", x.run(0, 0, bad, 0), -2);
            due("what", x.run(0, 0, 0, bad), -2);
        }
        due("what 3", x.run(0, 0, 0, 3), -2);
        due("stone 1", x.run(0, 0, 1, 0), -2);
        due("nights 101", x.run(0, 101, 0, 0), 4);
        due("nights 1", x.run(0, 1, 0, 0), 8);
        due("nothing changed", x.stoneTold(0, 1), 32 * 64 + 32);
    }

    private static void lay() {
        checks.at("12 lay");
        WalkingStones x = new WalkingStones();
        x.stone(5, 0);
        x.stone(10, 64);
        x.how(0, 0);
        x.night(10400);
        x.night(10400);
        due("one night", x.lay(0, 0), 5);
        due("stone 0", x.stoneTold(0, 1), 3);
        due("stone 1", x.stoneTold(1, 1), 66);
        due("two nights", x.lay(0, 1), 10);
        due("stone 0", x.stoneTold(0, 1), 9);
        due("stone 1", x.stoneTold(1, 1), 70);
        due("the old place is free", x.stone(1, 0), 2);
        due("the new one is not", x.stone(1, 9), -3);
        due("no stones, none went", noStones().lay(0, 0), 0);
    }

    private static WalkingStones noStones() {
        WalkingStones x = new WalkingStones();
        x.how(0, 0);
        x.night(10990);
        return x;
    }

    private static void tracks() {
        checks.at("13 track, 14 together");
        WalkingStones x = lake(5, 10, 10000);
        for (int bad : WRONG) {
            due("stone", x.track(bad, 0, 0), -2);
            due("length", x.track(0, bad, 0), -2);
            due("turns", x.track(0, 0, bad), -2);
        }
        due("stone 1", x.track(1, 0, 0), -2);
        due("length 1000", x.track(0, 1000, 0), -2);
        due("turns 100", x.track(0, 0, 100), -2);
        int[] lengths = {0, 999, 900, 50, 50};
        int[] turns = {0, 99, 99, 1, 2};
        for (int i = 0; i < 24; i++) {
            due("track", x.track(0, lengths[Math.min(i, 4)], turns[Math.min(i, 4)]), i);
        }
        due("full", x.track(0, 0, 0), -4);
        due("bad ahead of full", x.track(1, 0, 0), -2);
        due("99 off", x.together(1, 2, 99), 1);
        due("98 off", x.together(2, 1, 98), 0);
        due("turns unlike", x.together(3, 4, 99), 0);
        due("alike in all", x.together(4, 5, 0), 1);
        due("one twice", x.together(1, 1, 0), -2);
        due("off 100", x.together(1, 2, 100), -2);
        for (int bad : new int[] {-1, 24, MIN, MAX}) {
            due("a", x.together(bad, 0, 0), -2);
            due("b", x.together(0, bad, 0), -2);
        }
        for (int bad : WRONG) {
            due("off", x.together(1, 2, bad), -2);
        }
    }

    private static void groups() {
        checks.at("15 groups");
        WalkingStones x = lake(5, 10, 10000);
        due("none", x.groups(0), 0);
        int[] lengths = {10, 30, 20, 40, 100, 10};
        for (int i = 0; i < 6; i++) {
            x.track(0, lengths[i], i == 5 ? 1 : 0);
        }
        due("by 9", x.groups(9), 6);
        due("by 10, and so on", x.groups(10), 3);
        due("by 60", x.groups(60), 2);
        due("one track", withTracks(1).groups(0), 1);
        due("24 in a row", withTracks(24).groups(1), 1);
        due("24 apart", withTracks(24).groups(0), 24);
        due("by 99", x.groups(99), 2);
        for (int bad : new int[] {-1, 100, MIN, MAX}) {
            due("off", x.groups(bad), -2);
        }
    }

    private static void fits() {
        checks.at("16 fits");
        WalkingStones x = lake(5, 10, 10400);
        x.night(10401);
        int[][] tracks = {{6, 1, 9}, {7, 1, 8}, {5, 1, 8}, {6, 0, 6}, {6, 2, 6}, {6, 4, 1}, {14, 1, 1}, {13, 1, 2}, {999, 99, 1},
            {8, 2, 4}};
        for (int i = 0; i < tracks.length; i++) {
            due("track", x.track(0, tracks[i][0], tracks[i][1]), i);
            due("fits " + tracks[i][0] + ", " + tracks[i][1], x.fits(i, 0), tracks[i][2]);
        }
        for (int bad : new int[] {-1, 10, MIN, MAX}) {
            due("track", x.fits(bad, 0), -2);
            due("how", x.fits(0, bad), -2);
        }
        WalkingStones y = new WalkingStones();
        y.stone(1, 1);
        y.how(0, 0);
        y.track(0, 2, 1);
        due("no nights", y.fits(0, 0), 4);
    }

    private static void odds() {
        checks.at("17 odds");
        WalkingStones x = lake(5, 10, 10400);
        for (int i = 0; i < 18; i++) {
            x.track(0, 3, 0);
        }
        // Hows 0 to 5 go 3, 2, 0, 0, 0, 1 squares: they fit by 9, 8, 6, 6, 6, 7.
        due("above", x.odds(0, 1, 0), 3);
        due("below", x.odds(0, 1, 1), 14);
        due("how 1", x.odds(1, 1, 0), 4);
        due("how 1", x.odds(1, 1, 1), 21);
        due("two tracks: 81 by 81 64 36 36 36 49", x.odds(0, 3, 0), 81);
        due("below", x.odds(0, 3, 1), 302);
        due("no tracks", x.odds(0, 0, 0), 1);
        due("no tracks", x.odds(0, 0, 1), 6);
        due("all 16: only 3 to the 32nd is odd above", x.odds(0, 65535, 0), 1853020188851841L);
        due("track 16 is none of the first 16", x.odds(0, 65536, 0), WalkingStones.NO);
        for (int bad : new int[] {-1, 6, MIN, MAX}) {
            due("how", x.odds(bad, 1, 0), WalkingStones.NO);
            due("part", x.odds(0, 1, bad), WalkingStones.NO);
        }
        due("part 2", x.odds(0, 1, 2), WalkingStones.NO);
        for (int bad : WRONG) {
            due("tracks", x.odds(0, bad, 0), WalkingStones.NO);
        }
        WalkingStones y = lake(5, 10, 10400);
        y.track(0, 3, 0);
        y.track(0, 3, 0);
        due("bits of all", y.odds(0, 3, 0), 81);
        due("a bit of none", y.odds(0, 4, 0), WalkingStones.NO);
        due("a bit of none", y.odds(0, 5, 0), WalkingStones.NO);
        due("one how alone", onlyHow().odds(0, 0, 1), 1);
    }

    private static WalkingStones onlyHow() {
        WalkingStones x = new WalkingStones();
        x.how(0, 0);
        return x;
    }

    private static void pegs() {
        checks.at("18 peg, 19 holds");
        WalkingStones x = lake(5, 10, 10000);
        for (int bad : new int[] {-1, 4096, MIN, MAX}) {
            due("place", x.peg(bad), -2);
            due("holds, stone", x.holds(bad, 1), -2);
        }
        for (int bad : new int[] {-1, 64, MIN, MAX}) {
            due("holds, far", x.holds(0, bad), -2);
        }
        due("no pegs", x.holds(0, 63), 0);
        due("x less 2, y less 3", x.peg(29 * 64 + 30), 1);
        due("only two sides", x.holds(0, 63), 0);
        x.image();
        due("x more 1, y alike", x.peg(32 * 64 + 33), 2);
        due("y alike is not more", x.holds(0, 63), 0);
        x.back();
        x.peg(33 * 64 + 32);
        due("x alike is not more", x.holds(0, 63), 0);
        x.back();
        alikeIsNotLess();
        due("x more 4, y alike", x.peg(32 * 64 + 36), 2);
        due("three sides", x.holds(0, 63), 0);
        due("x alike, y more 5", x.peg(37 * 64 + 32), 3);
        due("by 5", x.holds(0, 5), 1);
        due("by 4", x.holds(0, 4), 0);
        due("by 63", x.holds(0, 63), 1);
        due("by 0", x.holds(0, 0), 0);
        for (int i = 4; i <= 8; i++) {
            due("more, at one place too", x.peg(4095), i);
        }
        due("full", x.peg(0), -4);
        due("bad ahead of full", x.peg(-1), -2);
    }

    private static void alikeIsNotLess() {
        WalkingStones x = lake(5, 10, 10000);
        x.peg(33 * 64 + 33);
        x.peg(31 * 64 + 32);
        due("x alike is not less", x.holds(0, 63), 0);
        x.peg(33 * 64 + 31);
        due("x less", x.holds(0, 63), 1);
        WalkingStones y = lake(5, 10, 10000);
        y.peg(33 * 64 + 33);
        y.peg(32 * 64 + 31);
        due("y alike is not less", y.holds(0, 63), 0);
    }

    private static void bars() {
        checks.at("20 bars");
        WalkingStones x = new WalkingStones();
        x.how(0, 0);
        x.how(3, 0);
        x.stone(10, 32 * 64 + 32);
        x.stone(10, 33 * 64 + 40);
        due("no pegs", x.bars(0, 63), 0);
        x.peg(31 * 64 + 31);
        x.peg(34 * 64 + 41);
        due("no nights", x.bars(0, 63), 0);
        x.night(10301);
        due("onto the ring", x.bars(0, 63), 0);
        x.night(10301);
        due("one beyond", x.bars(0, 63), 1);
        x.night(10301);
        due("both beyond", x.bars(0, 63), 2);
        due("both held by 9", x.bars(0, 9), 2);
        due("none by 8", x.bars(0, 8), 0);
        due("another how", x.bars(1, 63), 0);
        x.night(10303);
        x.night(10303);
        due("where they lie then counts", x.bars(0, 63), 0);
        barsOnAllSides();
        for (int bad : new int[] {-1, 2, MIN, MAX}) {
            due("how", x.bars(bad, 1), -2);
        }
        for (int bad : new int[] {-1, 64, MIN, MAX}) {
            due("far", x.bars(0, bad), -2);
        }
    }

    /** A stone in the midst of a ring goes two squares onto it, and three beyond it, by each way. */
    private static void barsOnAllSides() {
        for (int way = 0; way < 4; way++) {
            WalkingStones x = new WalkingStones();
            x.how(0, 0);
            x.stone(10, 20 * 64 + 40);
            x.peg(18 * 64 + 38);
            x.peg(22 * 64 + 42);
            x.peg(19 * 64 + 39);
            x.night(10400 + way);
            due("onto it by way " + way, x.bars(0, 2), 0);
            x.night(10300 + way);
            due("beyond it by way " + way, x.bars(0, 2), 1);
            due("not held", x.bars(0, 1), 0);
        }
    }

    private static void seldom() {
        checks.at("21 seldom");
        WalkingStones x = new WalkingStones();
        x.how(0, 0);
        due("no nights", x.seldom(0, 0), 0);
        due("no row", x.seldom(0, 1), 0);
        due("0", x.seldom(0, 2), 0);
        due("by 1", x.seldom(0, 3), 1);
        x.stone(30, 63);
        x.stone(10, 62);
        int[] weathers = {500, 10290, 10300, 10290, 290, 10990, 10000, 500, 0, 0};
        for (int weather : weathers) {
            x.night(weather);
        }
        due("how many", x.seldom(0, 0), 2);
        due("the longest row", x.seldom(0, 1), 4);
        due("10 by 2 above", x.seldom(0, 2), 5);
        due("10 by 2 below", x.seldom(0, 3), 1);
        x.night(10700);
        due("11 by 3 above", x.seldom(0, 2), 11);
        due("11 by 3 below", x.seldom(0, 3), 3);
        for (int bad : new int[] {-1, 1, MIN, MAX}) {
            due("how", x.seldom(bad, 0), WalkingStones.NO);
        }
        for (int bad : new int[] {-1, 6, MIN, MAX}) {
            due("what", x.seldom(0, bad), WalkingStones.NO);
        }
        due("the first stone on the first night", lake(5, 0, 10500).seldom(0, 0), 1);
        due("no row", lake(5, 0, 10500).seldom(0, 1), 0);
        due("no stones, none", noStones().seldom(0, 0), 0);
        due("no stones, a row", noStones().seldom(0, 1), 1);
        due("no stones, 0", noStones().seldom(0, 2), 0);
        due("no stones, by 1", noStones().seldom(0, 3), 1);
    }

    private static void called() {
        checks.at("21 seldom, CALLED");
        WalkingStones x = new WalkingStones();
        x.how(0, 7);
        int[] weathers = {10990, 11990, 1990, 11000};
        for (int weather : weathers) {
            x.night(weather);
        }
        due("ice by the first rule", x.seldom(0, 4), 3);
        due("no stones", x.seldom(0, 5), 0);
        ruled(x, "add 0;call weight=0;worth 0;");
        due("weight 0 without any", x.seldom(0, 4), 4);
        x.stone(9, 0);
        x.stone(5, 100);
        x.stone(8, 200);
        ruled(x, "add 0;call weight=5;worth 0;");
        due("the lightest", x.seldom(0, 4), 4);
        due("pushed", x.seldom(0, 5), 2);
        ruled(x, "add 0;call number-7+night*(wind<99);worth 0;");
        due("night 3 alone", x.seldom(0, 4), 1);
        due("not pushed", x.seldom(0, 5), 0);
        ruled(x, "add 0;call -(night=1);worth 0;");
        due("below 0 is not 0", x.seldom(0, 4), 1);
        due("pushed on it", x.seldom(0, 5), 1);
    }

    private static void when() {
        checks.at("22 when");
        WalkingStones x = new WalkingStones();
        x.stone(10, 0);
        x.stone(10, 64);
        x.how(0, 0);
        x.how(5, 20);
        for (int way = 0; way < 4; way++) {
            x.night(10300 + way);
        }
        x.night(10290);
        x.night(300);
        due("right only", x.when(0, 0), 1);
        due("right and down", x.when(0, 1), 3);
        due("one square is enough", oneSquare().when(0, 0), 1);
        due("slope is barred by the other one", x.when(1, 0), 0);
        due("slope, whatever the way", x.when(1, 1), 31);
        for (int i = 6; i < 60; i++) {
            x.night(10990);
        }
        due("60 nights", x.when(0, 0), 1L | (-1L << 6 & (1L << 60) - 1));
        for (int bad : new int[] {-1, 2, MIN, MAX}) {
            due("how", x.when(bad, 0), WalkingStones.NO);
            due("stone", x.when(0, bad), WalkingStones.NO);
        }
        due("nothing changed", x.stoneTold(0, 1), 0);
    }

    private static WalkingStones oneSquare() {
        WalkingStones x = new WalkingStones();
        x.how(0, 0);
        x.stone(1, 62);
        x.night(10990);
        return x;
    }

    private static WalkingStones withTracks(int n) {
        WalkingStones x = lake(5, 10, 10000);
        for (int i = 0; i < n; i++) {
            x.track(0, i, 0);
        }
        return x;
    }

    private static void cross() {
        checks.at("23 cross");
        WalkingStones x = withTracks(3);
        for (int bad : new int[] {-1, 3, MIN, MAX}) {
            due("over", x.cross(bad, 0), -2);
            due("under", x.cross(0, bad), -2);
        }
        due("alike", x.cross(1, 1), -2);
        for (int i = 1; i <= 20; i++) {
            due("cross", x.cross(i % 3, (i + 1) % 3), i);
        }
        due("full", x.cross(0, 1), -4);
        due("bad ahead of full", x.cross(0, 0), -2);
        due("how many", x.count(5), 20);
    }

    private static void order() {
        checks.at("24 order");
        WalkingStones x = withTracks(5);
        for (int bad : new int[] {-1, 5, MIN, MAX}) {
            due("place", x.order(bad), -2);
        }
        for (int i = 0; i < 5; i++) {
            due("by numbers", x.order(i), i);
        }
        x.cross(0, 3);
        x.cross(1, 0);
        int[] due = {2, 3, 0, 1, 4};
        for (int i = 0; i < 5; i++) {
            due("the later one behind", x.order(i), due[i]);
        }
        x.cross(3, 1);
        due("2 is free", x.order(0), 2);
        due("4 is free", x.order(1), 4);
        for (int i = 2; i < 5; i++) {
            due("the others lie round", x.order(i), -1);
        }
        due("no tracks", withTracks(0).order(0), -2);
    }

    private static void look() {
        checks.at("25 look");
        WalkingStones x = new WalkingStones();
        for (int what = 0; what < 3; what++) {
            due("no nights", x.look(99, what), 0);
        }
        int[] weathers = {0, 10, 200, 1300, 2300, 200};
        for (int weather : weathers) {
            x.night(weather);
        }
        // Costs 3 3 3 4 5 3; worths 0 1 20 30 30 20.
        for (int what = 0; what < 3; what++) {
            due("nothing", x.look(0, what), 0);
        }
        due("too little", x.look(2, 0), 0);
        due("one", x.look(3, 0), 4);
        due("one", x.look(3, 1), 20);
        due("one", x.look(3, 2), 3);
        due("30 for 4", x.look(4, 0), 8);
        due("of like ones the least coin", x.look(5, 2), 4);
        due("40 by two", x.look(6, 0), 36);
        due("50: the least as bits", x.look(7, 0), 12);
        due("50 for 7 of 8", x.look(8, 2), 7);
        due("all but what is worth nothing", x.look(99, 0), 62);
        due("worth", x.look(99, 1), 101);
        due("coin", x.look(99, 2), 18);
        for (int bad : new int[] {-1, 100, MIN, MAX}) {
            due("coin", x.look(bad, 0), -2);
        }
        for (int bad : new int[] {-1, 3, MIN, MAX}) {
            due("what", x.look(0, bad), -2);
        }
        lookAtMany();
    }

    private static void lookAtMany() {
        WalkingStones x = new WalkingStones();
        for (int i = 0; i < 14; i++) {
            x.night(9990);
        }
        due("eight of 12 at 12 each", x.look(99, 0), 255);
        due("worth", x.look(99, 1), 792);
        due("coin", x.look(99, 2), 96);
        ruled(x, "add 0;call 0;worth weight+number+100*(11<night)+night;");
        due("only the first 12", x.look(99, 0), 4080);
        due("4 to 11", x.look(99, 1), 60);
    }

    private static void foretold() {
        checks.at("26 foretold");
        WalkingStones x = new WalkingStones();
        x.how(0, 0);
        x.stone(10, 0);
        x.stone(40, 200);
        x.stone(10, 1);
        x.night(10300);
        x.night(10302);
        x.night(10301);
        due("stone 0 is barred, 1 too heavy", x.foretold(0, 0), 4);
        due("edge and stone", x.foretold(0, 1), 0);
        due("down", x.foretold(0, 2), 5);
        for (int bad : new int[] {-1, 3, MIN, MAX}) {
            due("how", x.foretold(bad, 0), -2);
            due("night", x.foretold(0, bad), -2);
        }
        due("no stones", noStones().foretold(0, 0), 0);
    }

    private static void held() {
        checks.at("27 held");
        WalkingStones x = new WalkingStones();
        x.how(0, 0);
        x.night(10301);
        x.sheet(0, 1, 0);
        due("no stones, no numbers", x.held(0, 0, 0), -1);
        x.stone(10, 0);
        x.stone(40, 200);
        x.stone(10, 1);
        due("size", x.held(0, 0, 0), -2);
        due("missing", x.held(0, 0, 3), -11);
        for (int bad : new int[] {-1, 4, MIN, MAX}) {
            due("how", x.held(bad, 0, 0), -2);
            due("night", x.held(0, bad, 0), -2);
            due("sheet", x.held(0, 0, bad), -2);
            due("bad ahead of missing", x.held(bad, 0, 3), -2);
        }
        for (int sort = 0; sort < 3; sort++) {
            x.sheet(1, sort, 3);
            due("stone 0 goes", x.held(0, 0, 1), 0);
            x.cell(1, 0, 1);
            due("stone 2 goes", x.held(0, 0, 1), 2);
            x.cell(1, 2, 1);
            due("all so", x.held(0, 0, 1), -1);
            x.cell(1, 1, 2);
            due("2 is neither", x.held(0, 0, 1), 1);
            x.cell(1, 1, 0);
            x.cell(1, 2, 1 + 65536);
            due("the lowest bits", x.held(0, 0, 1), sort == 2 ? 2 : -1);
        }
        x.sheet(2, 0, 4);
        due("one too many", x.held(0, 0, 2), -2);
    }

    private static void images() {
        checks.at("28 image, 29 back");
        WalkingStones x = new WalkingStones();
        due("none", x.back(), -3);
        due("image of nothing", x.image(), 0);
        due("back to nothing", x.back(), 0);
        x.how(0, 0);
        x.night(10400);
        x.stone(5, 0);
        x.stone(5, 64);
        x.track(0, 5, 0);
        x.track(1, 6, 0);
        x.cross(0, 1);
        x.peg(70);
        Checks.read(x, "add 1;call 0;worth 0;");
        x.force(1);
        due("image", x.image(), 2);
        x.force(0);
        x.track(0, 7, 0);
        x.cross(2, 1);
        x.peg(71);
        x.how(1, 1);
        x.night(0);
        x.feed(1, 32);
        x.sheet(0, 0, 1);
        x.lay(0, 0);
        due("a stone where one lay", x.stone(5, 0), 2);
        due("back", x.back(), 3);
        int[] due = {3, 2, 2, 2, 1, 1, 2, 1, 1};
        for (int what = 0; what <= 8; what++) {
            due("count(" + what + ")", x.count(what), due[what]);
        }
        due("stone 0 as it lay", x.stoneTold(0, 1), 0);
        due("stone 1 as it lay", x.stoneTold(1, 1), 64);
        due("stone 2 stays", x.stoneTold(2, 1), 0);
        due("the sheet stays", x.cell(0, 0, 1), 1);
        due("tracks as they were", x.together(0, 1, 1), 1);
        due("track 2 is gone", x.fits(2, 0), -2);
        due("order", x.order(0), 1);
        due("two at one place go on", x.lay(0, 0), 11);
        due("stone 0 goes first", x.stoneTold(0, 1), 4);
        due("stone 2 stops behind it", x.stoneTold(2, 1), 3);
        due("back again", x.back(), 3);
        due("stone 0", x.stoneTold(0, 1), 0);
        due("stone 2 stays", x.stoneTold(2, 1), 3);
        due("a new track", x.track(1, 9, 0), 2);
        due("a new image", x.image(), 3);
        x.lay(0, 0);
        x.back();
        due("track 2 stays", x.count(3), 3);
        due("stone 2 is in it", x.stoneTold(2, 1), 3);
    }

    private static void counts() {
        checks.at("30 count");
        WalkingStones x = new WalkingStones();
        for (int bad : new int[] {-1, 9, MIN, MAX}) {
            due("what", x.count(bad), -2);
        }
        x.stone(1, 0);
        due("stones", x.count(0), 1);
        x.night(0);
        x.night(0);
        due("nights", x.count(1), 2);
        for (int i = 0; i < 3; i++) {
            x.how(0, 0);
        }
        due("hows", x.count(2), 3);
        for (int i = 0; i < 4; i++) {
            x.track(0, 0, 0);
        }
        due("tracks", x.count(3), 4);
        for (int i = 0; i < 5; i++) {
            x.peg(0);
        }
        due("pegs", x.count(4), 5);
        for (int i = 0; i < 6; i++) {
            x.cross(0, 1);
        }
        due("cross", x.count(5), 6);
        Checks.read(x, "add 0;call 0;worth 0;");
        due("texts", x.count(6), 2);
        x.feed(7, 0);
        due("tape", x.count(7), 7);
        x.force(1);
        due("rule", x.count(8), 1);
    }

    private static void sheets() {
        checks.at("31 sheet");
        WalkingStones x = new WalkingStones();
        for (int bad : new int[] {-1, 4, MIN, MAX}) {
            due("sheet", x.sheet(bad, 0, 1), -2);
            due("sheet ahead of size", x.sheet(bad, 0, -1), -2);
        }
        for (int bad : new int[] {-2, 3, MIN, MAX}) {
            due("sort", x.sheet(0, bad, 1), -2);
        }
        due("41", x.sheet(0, 0, 41), -2);
        due("most", x.sheet(0, 0, MAX), -2);
        due("below 0", x.sheet(0, 0, -1), -14);
        due("far below 0", x.sheet(0, 2, MIN), -14);
        due("still missing", x.cell(0, 0, 0), -11);
        due("40", x.sheet(0, 2, 40), 1);
        due("the last", x.cell(0, 39, 7), 1);
        due("0", x.sheet(3, 1, 0), 1);
        due("nothing in it", x.cell(3, 0, 0), -12);
        due("refused", x.sheet(0, 1, 41), -2);
        due("nothing changed", x.cell(0, 39, 10), 1);
        x.cell(0, 0, 10000);
        due("a night by it", x.nights(0, 2, 0, 1), 1);
        due("missing, n does not matter", x.sheet(0, -1, -7), 1);
        due("it is", x.cell(0, 0, 0), -11);
        due("missing, n does not matter", x.sheet(0, -1, 99), 1);
        due("anew", x.sheet(0, 2, 40), 1);
        due("all 0", x.nights(0, 2, 0, 1), 1);
        due("the night is 0", dryNight(x, 1), 0);
        sheetsSideBySide();
    }

    /** A sheet that is made anew leaves the others as they are. */
    private static void sheetsSideBySide() {
        WalkingStones x = new WalkingStones();
        for (int sheet = 0; sheet < 4; sheet++) {
            due("40", x.sheet(sheet, 2, 40), 1);
            x.cell(sheet, 0, 10000);
            x.cell(sheet, 39, 10000);
        }
        x.sheet(1, 2, 40);
        x.nights(0, 2, 39, 1);
        x.nights(2, 2, 0, 1);
        due("the last of the one", dryNight(x, 0), 1);
        due("the first of the other", dryNight(x, 1), 1);
    }

    /** Whether a gust may go on a night: 0, if it is dry. */
    private static int dryNight(WalkingStones x, int night) {
        if (x.count(0) == 0) {
            x.stone(1, 0);
        }
        if (x.count(2) == 0) {
            x.how(1, 0);
        }
        return x.told(0, 0, night, 0);
    }

    private static void cells() {
        checks.at("32 cell");
        WalkingStones x = new WalkingStones();
        x.sheet(1, 0, 3);
        for (int bad : new int[] {-1, 4, MIN, MAX}) {
            due("sheet", x.cell(bad, 0, 0), -2);
            due("missing ahead of outside", x.cell(0, bad, 0), -11);
        }
        for (int bad : new int[] {-1, 3, MIN, MAX}) {
            due("item", x.cell(1, bad, 0), -12);
        }
        due("item 2", x.cell(1, 2, 0), 1);
        x.cell(1, 0, 256 + 93);
        x.cell(1, 1, 200);
        x.cell(1, 2, -256);
        due("93, none by -56, 0", x.nights(1, 0, 0, 3), 2);
        x.sheet(2, 1, 3);
        x.cell(2, 0, 65536 + 10000);
        x.cell(2, 1, 40000);
        x.cell(2, 2, 32001);
        due("10000, none by -25536, 32001", x.nights(2, 1, 0, 3), 2);
        due("10000 is wet", dryNight(x, 2), 1);
        x.sheet(3, 2, 1);
        x.cell(3, 0, 65536 + 10000);
        due("an int as it is", x.nights(3, 2, 0, 1), 0);
    }

    private static void copies() {
        checks.at("33 copy");
        WalkingStones x = new WalkingStones();
        x.sheet(0, 2, 5);
        x.sheet(1, 2, 3);
        x.sheet(2, 1, 5);
        for (int bad : new int[] {-1, 4, MIN, MAX}) {
            due("sheet", x.copy(bad, 0, 0, 0, 0), -2);
            due("other", x.copy(0, 0, bad, 0, 0), -2);
            due("other ahead of missing", x.copy(3, 0, bad, 0, 0), -2);
        }
        due("missing", x.copy(3, 0, 0, 0, 0), -11);
        due("other missing", x.copy(0, 0, 3, 0, 0), -11);
        due("unlike", x.copy(0, 0, 2, 0, 0), -13);
        due("unlike ahead of outside", x.copy(0, -1, 2, 0, 0), -13);
        int[][] outside = {{-1, 0, 1}, {0, -1, 1}, {0, 0, -1}, {0, 0, 4}, {3, 0, 3}, {0, 1, 3}, {5, 0, 1}, {0, 3, 1},
            {MAX, 0, 1}, {0, MAX, 1}, {1, 1, MAX}, {MAX, MAX, MAX}, {MIN, 0, 1}, {0, 0, MIN}, {6, 0, 0}, {0, 4, 0}};
        for (int[] row : outside) {
            due("outside " + row[0] + " " + row[1] + " " + row[2], x.copy(0, row[0], 1, row[1], row[2]), -12);
        }
        due("none", x.copy(0, 5, 1, 3, 0), 0);
        for (int i = 0; i < 5; i++) {
            x.cell(0, i, i == 0 ? 10000 : 4);
        }
        due("over itself, as they were", x.copy(0, 0, 0, 1, 4), 4);
        due("two nights", x.nights(0, 2, 0, 5), 2);
        due("back over itself", x.copy(0, 1, 0, 0, 4), 4);
        due("one night", x.nights(0, 2, 0, 5), 1);
        due("to another", x.copy(0, 0, 1, 2, 1), 1);
        due("there", x.nights(1, 2, 2, 1), 1);
        due("wet", dryNight(x, x.count(1) - 1), 1);
        due("0 ahead", x.nights(1, 2, 1, 1), 1);
        due("dry", dryNight(x, x.count(1) - 1), 0);
    }

    private static void nightsBySheet() {
        checks.at("34 nights");
        WalkingStones x = new WalkingStones();
        x.sheet(0, 2, 40);
        for (int bad : new int[] {-1, 4, MIN, MAX}) {
            due("sheet", x.nights(bad, 0, 0, 0), -2);
        }
        for (int bad : new int[] {-1, 3, MIN, MAX}) {
            due("sort", x.nights(0, bad, 0, 0), -2);
        }
        for (int bad : new int[] {-1, 21, MIN, MAX}) {
            due("n", x.nights(0, 2, 0, bad), -2);
            due("n ahead of missing", x.nights(1, 2, 0, bad), -2);
        }
        due("another sort", x.nights(0, 1, 0, 0), -13);
        due("missing", x.nights(1, 1, 0, 0), -11);
        due("none", x.nights(0, 2, 40, 0), 0);
        due("outside at once", x.nights(0, 2, 40, 1), -12);
        due("outside at once", x.nights(0, 2, -1, 3), -12);
        due("outside at once", x.nights(0, 2, MAX, 3), -12);
        due("outside at once", x.nights(0, 2, MIN, 3), -12);
        due("none came", x.count(1), 0);
        due("20", x.nights(0, 2, 0, 20), 20);
        due("what stood ahead came", x.nights(0, 2, 25, 20), -12);
        due("15 more", x.count(1), 35);
        due("20", x.nights(0, 2, 20, 20), 20);
        x.cell(0, 3, 4);
        due("full: five came", x.nights(0, 2, 0, 20), 5);
        due("60", x.count(1), 60);
        due("none has room", x.nights(0, 2, 0, 20), 0);
    }

    private static void taken() {
        checks.at("35 taken");
        WalkingStones x = new WalkingStones();
        for (int kind = 0; kind <= 5; kind++) {
            x.how(kind, 10 + kind);
        }
        String[] under = {"100000", "110000", "111000", "111100", "111010", "100001"};
        for (int how = 0; how <= 5; how++) {
            for (int k = 0; k <= 5; k++) {
                due("taken(" + how + ", " + k + ")", x.taken(how, k), under[how].charAt(k) == '1' ? 10 + how : -13);
            }
        }
        for (int bad : new int[] {-1, 6, MIN, MAX}) {
            due("k", x.taken(0, bad), -2);
            due("how", x.taken(bad, 0), -11);
            due("k ahead of how", x.taken(bad, bad), -2);
        }
    }

    /** As much of everything as there can be, so that every row is used to its end. */
    private static void allFull() {
        checks.at("all full");
        WalkingStones x = new WalkingStones();
        for (int i = 0; i < 10; i++) {
            due("stone", x.stone(1 + i, 64 * 5 * i + 32), i);
        }
        for (int i = 0; i < 60; i++) {
            due("night", x.night(16990 + (i & 1) * 2), i);
        }
        for (int i = 0; i < 8; i++) {
            due("how", x.how(3, 9), i);
        }
        for (int i = 0; i < 24; i++) {
            due("track", x.track(9, 540, 59), i);
        }
        for (int i = 1; i <= 20; i++) {
            due("cross", x.cross(i, i - 1), i);
        }
        for (int i = 1; i <= 8; i++) {
            due("peg", x.peg(i % 2 == 0 ? 0 : 4095), i);
        }
        due("went", x.run(0, 59, 9, 0), 540);
        due("at", x.run(7, 59, 9, 1), 64 * 45 + 32);
        due("turns", x.run(7, 59, 9, 2), 59);
        due("fits", x.fits(23, 7), 9);
        due("odds, above", x.odds(7, 65535, 0), 1);
        due("odds, below", x.odds(7, 65535, 1), 8);
        due("groups", x.groups(0), 1);
        due("order", x.order(23), 23);
        due("holds", x.holds(9, 63), 1);
        due("bars", x.bars(7, 63), 0);
        due("seldom", x.seldom(7, 0), 60);
        due("row", x.seldom(7, 1), 0);
        due("called", x.seldom(7, 4), 60);
        due("called and pushed", x.seldom(7, 5), 60);
        due("when", x.when(7, 9), (1L << 60) - 1);
        due("look", x.look(99, 0), 2047);
        due("foretold", x.foretold(7, 59), 1023);
        due("image", x.image(), 10);
        due("lay", x.lay(7, 59), 5400);
        due("lay a night", x.lay(7, 5959), 90);
        due("moved", x.stoneTold(9, 1), 64 * 45 + 23);
        due("back", x.back(), 10);
        due("there again", x.stoneTold(9, 1), 64 * 45 + 32);
        fullTapes(x);
    }

    /** 160 bytes as so many tokens as can be, as one word, as one number, as blanks. */
    private static void fullTapes(WalkingStones x) {
        String blanks = " ".repeat(160);
        String sum = "add 0" + "+1".repeat(69) + ";call 0;worth 0; ";
        due("160 bytes", sum.length(), 160);
        due("a long sum", Checks.read(x, sum), 1);
        x.force(1);
        due("9 more at most", x.told(0, 0, 0, 2), 18);
        due("nothing is worth a look now", x.look(99, 0), 0);
        due("semicolons", Checks.read(x, ";".repeat(160)), -100);
        due("a word", Checks.read(x, "add " + "w".repeat(156)), -104);
        due("a number", Checks.read(x, "add " + "1".repeat(156)), -104);
        due("blanks", Checks.read(x, blanks), -260);
        due("ends too early", Checks.read(x, "add 0" + "+1".repeat(77) + "+"), -260);
        due("a word at the end", Checks.read(x, "add 0;call 0;worth" + " ".repeat(137) + "night"), -260);
        due("blank, then", Checks.read(x, " ".repeat(139) + "add 0;call 0;worth 0;"), 2);
    }
}
