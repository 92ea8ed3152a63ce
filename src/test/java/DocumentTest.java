import java.io.IOException;
import java.nio.file.Files;
import java.nio.file.Path;
import java.util.ArrayList;
import java.util.Arrays;
import java.util.List;
import java.util.regex.Matcher;
import java.util.regex.Pattern;

/** The document from its first line: its face, the words that no other test names, and that no sentence is left out. */
public final class DocumentTest {
    private static final Checks checks = new Checks();
    private static final Path DOCUMENT = Path.of("../shared/DOC.md"), TESTS = Path.of("src/test/java");
    private static final int MIDDLE = 64 * 30 + 30;

    public static void main(String[] args) throws IOException {
        String document = Files.readString(DOCUMENT);
        String source = Files.readString(Path.of(args.length > 0 ? args[0] : "src/main/java/WalkingStones.java"));
        List<String> face = faceOf(document);
        face(face, source);
        sections(document, face, source);
        promisesAreOfTheFace(document, face);
        theLake();
        theLastCall();
        mayOnANight();
        gustAndRaft();
        textsFromTheTape();
        ones();
        names();
        faults();
        add();
        call();
        runs();
        groups();
        fitsAndOdds();
        needs();
        bars();
        seldom();
        crossAndOrder();
        foretold();
        nightsBySheet();
        everySentenceIsNamed(document);
        checks.end();
    }

    private static void due(String call, long got, long want) {
        checks.due(call, got, want);
    }

    /** One stone in the middle, a how of each kind with a number, and one night. */
    private static WalkingStones lake(int weight, int number, int weather) {
        WalkingStones x = new WalkingStones();
        x.stone(weight, MIDDLE);
        for (int kind = 0; kind <= 5; kind++) {
            x.how(kind, number);
        }
        x.night(weather);
        return x;
    }

    private static void rule(WalkingStones x, String text) {
        due(text, Checks.read(x, text), x.count(6) - 1);
        x.force(x.count(6) - 1);
    }

    // ---- the face

    /** The lines of the face between its first and its last one, without their semicolons. */
    private static List<String> faceOf(String document) {
        List<String> lines = new ArrayList<>();
        Matcher block = Pattern.compile("(?s)```java\n(.*?)```").matcher(document);
        if (block.find()) {
            for (String line : block.group(1).split("\n")) {
                if (line.startsWith("    public ")) {
                    lines.add(line.trim().replace(";", ""));
                }
            }
        }
        return lines;
    }

    private static void face(List<String> face, String source) {
        checks.at("The public face");
        due("lines: constants, a constructor, 34 calls", face.size(), 37);
        List<String> open = new ArrayList<>();
        for (String line : source.split("\n")) {
            if (line.startsWith("    public ")) {
                open.add(line.trim().replaceAll(" \\{$|;$", ""));
            }
        }
        checks.due("the class's public lines", open, face);
        checks.due("the class", source.contains("\npublic final class WalkingStones {\n"), true);
        due("NONE", WalkingStones.NONE, -1);
        due("BAD", WalkingStones.BAD, -2);
        due("STATE", WalkingStones.STATE, -3);
        due("FULL", WalkingStones.FULL, -4);
        due("NO", WalkingStones.NO, -4611686018427387904L);
    }

    /** The parts of the interface: which calls each has, and that the class has them there. */
    private static void sections(String document, List<String> face, String source) {
        checks.at("Ahead of the calls");
        Matcher parts = Pattern.compile("Ahead of the calls (.*) the interface says: (---- .*)\\.").matcher(document);
        List<String> all = new ArrayList<>();
        while (parts.find()) {
            int from = source.indexOf("    // " + parts.group(2) + "\n");
            checks.due(parts.group(2), from > 0, true);
            int to = source.indexOf("    // ---- ", from + 1);
            for (String name : parts.group(1).replace("`", "").split(", ")) {
                all.add(name);
                int at = source.indexOf(" " + name + "(", Math.max(0, from));
                checks.due(name + " stands there", at > from && at < to, true);
            }
        }
        List<String> calls = new ArrayList<>();
        for (String line : face.subList(Math.min(3, face.size()), face.size())) {
            calls.add(line.replaceAll("public \\w+ (\\w+)\\(.*", "$1"));
        }
        checks.due("all calls in order", all, calls);
    }

    private static void promisesAreOfTheFace(String document, List<String> face) {
        checks.at("Promises 2 to 35");
        Matcher promises = Pattern.compile("## Promise (\\d+): (\\w+)\n\n`(\\w+ (\\w+)\\(.*\\))`: ").matcher(document);
        int number = 1;
        while (promises.find()) {
            number++;
            due("its number", Integer.parseInt(promises.group(1)), number);
            checks.due("its name", promises.group(2), promises.group(4));
            checks.due("its line", "public " + promises.group(3), number + 1 < face.size() ? face.get(number + 1) : "");
        }
        due("the last", number, 35);
    }

    // ---- what it is

    private static void theLake() {
        checks.says("A LAKE of 64 by 64: x, y 0 ..");
        int[] ends = {64 * 30 + 63, 64 * 63 + 30, 64 * 30, 30};
        for (int way = 0; way < 4; way++) {
            WalkingStones x = lake(1, 0, 10990 + way);
            for (int night = 1; night < 5; night++) {
                x.night(10990 + way);
            }
            due("where way " + way + " ends", x.run(0, 4, 0, 1), ends[way]);
            due("squares to there", x.run(0, 4, 0, 0), way < 2 ? 33 : 30);
        }
    }

    /** Pegs come and are taken back by an image, so that an object has much to do till its last call. */
    private static void theLastCall() {
        checks.says("An object is used for at most 512 calls after it has been made");
        WalkingStones x = new WalkingStones();
        int calls = 2;
        due("stone", x.stone(9, 64 * 5 + 5), 0);
        due("image", x.image(), 1);
        while (calls < 506) {
            for (int k = 1; k <= 6; k++) {
                due("peg, call " + (calls + k), x.peg(64 * k + k), k);
            }
            due("back, call " + (calls + 7), x.back(), 1);
            calls += 7;
        }
        due("506 calls till here", calls, 506);
        due("507", x.night(10990), 0);
        due("508", x.how(0, 0), 0);
        due("509", x.run(0, 0, 0, 0), 8);
        due("510", x.lay(0, 0), 8);
        due("511", x.peg(0), 1);
        due("512", x.stoneTold(0, 1), 64 * 5 + 13);
    }

    // ---- terms

    private static void mayOnANight() {
        checks.says("MAY on a NIGHT: HOW: WET isn't 0");
        WalkingStones x = lake(99, 0, 990);
        x.night(10000);
        due("the dry night", x.told(0, 0, 0, 0), 0);
        due("the wet one, though nothing is pushed", x.told(0, 0, 1, 0), 1);
        due("nothing is pushed", x.told(0, 0, 1, 2), 0);
    }

    private static void gustAndRaft() {
        checks.says("GUST, RAFT as a HOW;");
        for (int wind = 0; wind <= 99; wind++) {
            WalkingStones x = lake(6, 11, 13000 + 10 * wind);
            due("gust, " + wind + " less 23", x.told(1, 0, 0, 2), wind < 23 ? 0 : (wind - 23) / 10);
            due("raft, " + wind + " less 5", x.told(2, 0, 0, 2), wind < 5 ? 0 : (wind - 5) / 10);
        }
    }

    private static void textsFromTheTape() {
        checks.says("A TEXT is read from THE TAPE (160 bytes at most)");
        WalkingStones x = lake(5, 0, 10500);
        due("nothing was fed", x.text(), -100);
        due("fed", Checks.feed(x, "add 2;call 0;"), 13);
        due("fed on", Checks.feed(x, "worth 0;"), 21);
        due("one text of both", x.text(), 1);
        x.force(1);
        due("4 and 2", x.told(0, 0, 0, 2), 6);
    }

    /** What an E is, as worth of a look: wet 2, ice 3, wind 45. */
    private static void value(String e, int want) {
        WalkingStones x = new WalkingStones();
        x.night(23450);
        rule(x, "add 0;call 0;worth " + e + ";");
        due(e, x.look(99, 1), want);
    }

    private static void ones() {
        checks.says("ONE: a NUMBER, a NAME, - ONE, ( E ).");
        value("0", 0);
        value("37", 37);
        value("wind", 45);
        value("50 - - 3", 53);
        value("-(wet - wind)", 43);
        value("- - wind", 45);
        value("(wet or 0)", 1);
        value("2 * (ice + (wet * 5))", 26);
        String[] none = {"+", "*", "<", "=", ")", ";", "or", "and", "add", "call", "worth"};
        for (String sign : none) {
            due("a ONE isn't " + sign, Checks.read(new WalkingStones(), "add 1 + " + sign + " 1 ;"), -108);
        }
        due("nor not", Checks.read(new WalkingStones(), "add 1 + not 1 ;"), -108);
    }

    private static void names() {
        checks.says("NAMES are weight wet ice wind number night;");
        checks.says("Of a HOW, a STONE, a NIGHT: weight; wet; ice; wind; number: NUMBER; night: its number.");
        String[] names = {"weight", "wet", "ice", "wind", "number", "night"};
        int[] are = {7, 2, 3, 68, 4, 1};
        for (int i = 0; i < names.length; i++) {
            WalkingStones x = new WalkingStones();
            x.stone(3, 0);
            x.stone(7, MIDDLE);
            x.how(5, 20);
            x.how(0, 4);
            x.night(10990);
            x.night(23680);
            rule(x, "add " + names[i] + " - " + are[i] + " + 3;call 0;worth 0;");
            due(names[i] + " is " + are[i] + ", and so 5 and 3", x.told(1, 1, 1, 2), 8);
        }
        for (String name : new String[] {"place", "way", "how", "stone", "kind", "drag", "nights", "we", "weights"}) {
            due(name + " is none", Checks.read(new WalkingStones(), "add " + name + ";"), -104);
        }
    }

    private static void faults() {
        checks.says("FAULT: the place of the first byte of the first TOKEN that can't stand there");
        due("of two the first", Checks.read(new WalkingStones(), "add 1 or ) 12345 # ;"), -109);
        due("behind a blank", Checks.read(new WalkingStones(), "\n call 1;"), -102);
    }

    private static void add() {
        checks.says("add: by how much it PUSHES more, if that is above 0 without it");
        WalkingStones x = lake(5, 0, 10190);
        x.night(10200);
        rule(x, "add 3;call 0;worth 0;");
        due("9 by 10 is 0", x.told(0, 0, 0, 2), 0);
        due("10 by 10, and 3", x.told(0, 0, 1, 2), 4);
    }

    private static void call() {
        checks.says("call: whether one is called out to look");
        WalkingStones x = lake(5, 0, 10990);
        x.night(11000);
        x.night(12990);
        due("by the first rule, where ice is", x.seldom(0, 4), 2);
        due("and a stone is pushed", x.seldom(0, 5), 1);
        rule(x, "add 0;call 0;worth 0;");
        due("never", x.seldom(0, 4), 0);
        rule(x, "add 0;call 1;worth 0;");
        due("ever", x.seldom(0, 4), 3);
        due("and a stone is pushed", x.seldom(0, 5), 2);
    }

    private static void runs() {
        checks.says("each goes so many squares by WAY of the NIGHT as it PUSHES,");
        int[] strides = {1, 64, -1, -64};
        for (int way = 0; way < 4; way++) {
            WalkingStones x = lake(5, 0, 10600 + way);
            due("pushed", x.told(0, 0, 0, 2), 5);
            due("way " + way, x.run(0, 0, 0, 1), MIDDLE + 5 * strides[way]);
        }
        checks.says("WENT: how many squares a STONE went in all; AT: where it is;");
        checks.says("A RUN (nights: 100 times the one, and the other one): WENT (what 0), AT (1), TURNS (2) of a STONE.");
        WalkingStones x = lake(5, 0, 10600);
        x.night(10402);
        x.night(10301);
        due("there and back and down: 5, 3, 2", x.run(0, 2, 0, 0), 10);
        due("where it is", x.run(0, 2, 0, 1), MIDDLE + 2 + 128);
        due("turns", x.run(0, 2, 0, 2), 2);
        due("the last two nights", x.run(0, 102, 0, 0), 5);
    }

    private static void groups() {
        checks.says("GROUPS: how many there are, as those that are TOGETHER with one are of its GROUP, and so on.");
        WalkingStones x = lake(5, 0, 0);
        int[] lengths = {10, 14, 12, 99, 97};
        for (int length : lengths) {
            x.track(0, length, 3);
        }
        due("10 12 14, and 97 99", x.groups(2), 2);
        due("each alone", x.groups(1), 5);
    }

    private static void fitsAndOdds() {
        checks.says("FITS a TRACK a HOW (by a RUN over all NIGHTS)");
        WalkingStones x = lake(5, 0, 10600);
        x.night(10401);
        x.track(0, 10, 0);
        due("5 and 3 squares, a turn: 9 less 2 less 3", x.fits(0, 0), 4);
        due("slope, two squares: 1 at least", x.fits(0, 5), 1);
        checks.says("ODDS of a HOW: the product of what it FITS over TRACKS");
        // Number 0: hows and gusts go alike; rafts, wholes and panes may not, and fit by 1 as slopes do.
        due("4 by 4 4 1 1 1 1 above", x.odds(0, 1, 0), 1);
        due("below", x.odds(0, 1, 1), 3);
        due("1 by 12", x.odds(5, 1, 1), 12);
    }

    private static void needs() {
        checks.says("NEEDS: the least WIND (0 .. 99) by which a HOW PUSHES a STONE at all");
        WalkingStones x = lake(5, 8, 14000);
        due("how", x.needs(0, 0, 0), 20);
        due("gust", x.needs(1, 0, 0), 28);
        due("raft", x.needs(2, 0, 0), 14);
        due("whole may not", x.needs(3, 0, 0), -1);
        due("panes", x.needs(4, 0, 0), 12);
        due("slope", x.needs(5, 0, 0), 0);
    }

    private static void bars() {
        checks.says("BARS: how many STONES that are so held lie behind a RUN");
        WalkingStones x = lake(5, 0, 10400);
        x.peg(MIDDLE - 65);
        x.peg(MIDDLE + 65);
        due("held and gone", x.bars(0, 1), 1);
        due("held and not gone", x.bars(3, 1), 0);
        due("not held", x.bars(0, 0), 0);
        due("none went", x.stoneTold(0, 1), MIDDLE);
    }

    private static void seldom() {
        checks.says("SELDOM of a HOW: NIGHTS on which it PUSHES some STONE");
        WalkingStones x = lake(5, 0, 10400);
        x.night(400);
        x.night(13400);
        due("how", x.seldom(0, 0), 2);
        due("raft", x.seldom(2, 0), 1);
        due("whole", x.seldom(3, 0), 0);
    }

    private static void crossAndOrder() {
        checks.says("CROSS: pairs of TRACKS told (20 at most): the one lies over the other one (it is later).");
        checks.says("ORDER of TRACKS: place by place the least that isn't placed yet and lies over none that isn't");
        WalkingStones x = lake(5, 0, 0);
        for (int i = 0; i < 4; i++) {
            x.track(0, i, 0);
        }
        due("track 0 is later than 2", x.cross(0, 2), 1);
        due("track 2 is later than 3", x.cross(2, 3), 2);
        int[] order = {1, 3, 2, 0};
        for (int i = 0; i < 4; i++) {
            due("place " + i, x.order(i), order[i]);
        }
    }

    private static void foretold() {
        checks.says("FORETOLD of a HOW and a NIGHT: STONES (bits) of which WHEN has that NIGHT");
        WalkingStones x = lake(5, 0, 10300);
        x.night(10990);
        x.stone(20, MIDDLE + 64);
        x.stone(5, 63);
        due("the light one", x.foretold(0, 0), 1);
        due("both that have room", x.foretold(0, 1), 3);
        due("when, the light one", x.when(0, 0), 3);
        due("when, the heavy one", x.when(0, 1), 2);
        due("when, the one at the edge", x.when(0, 2), 0);
    }

    private static void nightsBySheet() {
        checks.says("NIGHTS by a SHEET that is taken for one of a sort: from one on, one by one (as of night()),");
        WalkingStones x = lake(5, 0, 0);
        int[] cells = {10300, 4, 10401, 20502};
        x.sheet(2, 1, 4);
        for (int i = 0; i < 4; i++) {
            x.cell(2, i, cells[i]);
        }
        due("from item 1 on, of which one is no night", x.nights(2, 1, 1, 3), 2);
        due("nights", x.count(1), 3);
        due("the first of them", x.run(0, 101, 0, 1), MIDDLE + 3 * 64);
        due("the other one", x.run(0, 202, 0, 1), MIDDLE - 4);
        due("taken for ints", x.nights(2, 2, 0, 1), -13);
    }

    // ---- no sentence is left out

    /** From the terms to the last promise every word stands in what some test names by says(). */
    private static void everySentenceIsNamed(String document) throws IOException {
        checks.at("no sentence is left out");
        int from = document.indexOf("## Terms"), to = document.indexOf("## Not promised");
        checks.due("terms and promises", from >= 0 && to > from, true);
        String words = document.substring(Math.max(0, from), Math.max(0, to))
            .replaceAll("(?m)^(#|```|Ahead of the calls).*$", "").replaceAll("\\s+", " ");
        boolean[] named = new boolean[words.length()];
        for (String quote : quotes()) {
            mark(words, quote, named);
        }
        Matcher lines = Pattern.compile("`\\w+ \\w+\\([^`]*\\)`:|==== \\d").matcher(words);
        while (lines.find()) {
            Arrays.fill(named, lines.start(), lines.end(), true);
        }
        StringBuilder left = new StringBuilder();
        for (int i = 0; i < words.length(); i++) {
            if (!named[i] && Character.isLetter(words.charAt(i))) {
                left.append(i > 0 && named[i - 1] ? " " : "").append(words.charAt(i));
            }
        }
        checks.due("what no test names", left.toString(), "");
    }

    private static List<String> quotes() throws IOException {
        List<String> found = new ArrayList<>();
        Pattern call = Pattern.compile("says\\(((?:\\s*\"[^\"]*\"\\s*\\+?)+)\\)");
        try (var files = Files.list(TESTS)) {
            for (Path file : files.toList()) {
                Matcher calls = call.matcher(Files.readString(file));
                while (calls.find()) {
                    found.add(calls.group(1).replaceAll("\"\\s*\\+\\s*\"", "").replaceAll("^\\s*\"|\"\\s*$", ""));
                }
            }
        }
        return found;
    }

    private static void mark(String words, String quote, boolean[] named) {
        for (int at = words.indexOf(quote); at >= 0; at = words.indexOf(quote, at + 1)) {
            Arrays.fill(named, at, at + quote.length(), true);
        }
    }
}
