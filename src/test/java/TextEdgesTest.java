/** The edges of texts: bytes, tokens, what can stand where, what is open, 32 bits, and the bounds of what texts say. */
public final class TextEdgesTest {
    private static final Checks checks = new Checks();
    /** The greatest int, of numbers with four digits at most; the least one is one more. */
    private static final String GREATEST = "(9999*9999*21+9999*4790+8416)";
    private static final String LEAST = "(-9999*9999*21-9999*4790-8417)";

    public static void main(String[] args) {
        bytesOfFeed();
        everyByteAsBlank();
        everyByteInWord();
        everyByteInNumber();
        everyByteAsSign();
        numbers();
        words();
        keysAreNoNames();
        endsTooEarly();
        lastByteOfAFullTape();
        mostThatWait();
        firstOfManyFaults();
        parts();
        comparisons();
        openSigns();
        openTillTheirEnd();
        wraps();
        truth();
        addBounds();
        callBounds();
        worthBounds();
        lightest();
        bindings();
        tapesLeaveNothing();
        firstRule();
        checks.end();
    }

    private static void due(String call, long got, long want) {
        checks.due(call, got, want);
    }

    private static int read(String text) {
        return Checks.read(new WalkingStones(), text);
    }

    private static void good(String text) {
        due("'" + text + "'", read(text), 1);
    }

    private static void fault(String text, int place) {
        WalkingStones x = new WalkingStones();
        due("'" + text + "'", Checks.read(x, text), -100 - place);
        due("empty then", x.count(7), 0);
        due("no text came", x.count(6), 1);
    }

    private static void bytesOfFeed() {
        checks.says("The n lowest bytes of a number, the lowest first, come behind THE TAPE: how many it has.");
        byte[] text = Lakes.PLAIN.getBytes();
        for (int n = 1; n <= 8; n++) {
            WalkingStones x = new WalkingStones();
            for (int from = 0; from < text.length; from += n) {
                int some = Math.min(n, text.length - from);
                long above = some == 8 ? 0 : -1L << 8 * some;
                due("so many", x.feed(some, Checks.packed(text, from, some) | above), from + some);
            }
            due("by " + n + " bytes", x.text(), 1);
        }
        WalkingStones x = new WalkingStones();
        x.feed(8, 0x2020202020202020L);
        x.feed(8, 0xff20202020202020L);
        due("the highest byte is the last", x.text(), -100 - 15);
        x.feed(8, 0x20202020202020ffL);
        due("the lowest byte is the first", x.text(), -100);
        x.feed(8, Long.MIN_VALUE);
        due("0 is no blank", x.text(), -100);
    }

    private static void everyByteAsBlank() {
        checks.says("blanks (32, 10) may stand between.");
        for (int b = 0; b < 256; b++) {
            char sign = (char) b;
            boolean blank = b == 32 || b == 10;
            due("byte " + b + " ahead", read(sign + Lakes.PLAIN), blank ? 1 : -100);
            int behind = read(Lakes.PLAIN + sign);
            due("byte " + b + " behind", behind, blank ? 1 : -121);
            boolean more = b >= '0' && b <= '9';
            due("byte " + b + " behind a name", read("add wet" + sign + ";call 0;worth 0;"),
                blank ? 1 : b >= 'a' && b <= 'z' ? -104 : b == ';' ? -108 : b == '+' || b == '*' || b == '<' || b == '='
                    || b == '-' ? -108 : -107);
            due("byte " + b + " behind a number", read("add 12" + sign + ";call 0;worth 0;"),
                blank || more ? 1 : b == ';' || b == '+' || b == '-' || b == '*' || b == '<' || b == '=' ? -107 : -106);
        }
        good("add\n0\n;\n\n  call 0\n; worth\n\n0;\n");
        good("add(0);call(0);worth(0);");
        good("add0;call0;worth0;");
        good("add-0;call-0;worth-0;");
        fault("add 1 2;call 0;worth 0;", 6);
        fault("add 1\n2;call 0;worth 0;", 6);
        fault("add we t;", 4);
        fault("a dd 0;", 0);
    }

    private static void everyByteInWord() {
        checks.says("WORDS (a .. z)");
        for (int b = 0; b < 256; b++) {
            boolean letter = b >= 'a' && b <= 'z';
            String text = "add " + (char) b + "et;call 0;worth 0;";
            int want = b == 'w' ? 1 : letter ? -104 : b == 32 || b == 10 ? -105 : b == '(' || b == '-' ? -105
                : b >= '0' && b <= '9' ? -105 : -104;
            due("byte " + b + " ahead of et", read(text), want);
        }
        fault("add `;", 4);
        fault("add {;", 4);
        fault("add A;", 4);
        fault("add Z;", 4);
        fault("add WET;", 4);
        fault("ADD 0;", 0);
    }

    private static void everyByteInNumber() {
        checks.says("NUMBERS (digits, 4 at most)");
        for (int digit = 0; digit <= 9; digit++) {
            due("digit " + digit, worthOf("" + digit), digit);
            due("digit " + digit + " twice", worthOf(digit + "" + digit), 11 * digit);
        }
        fault("add /;", 4);
        fault("add :;", 4);
        fault("add 1/;", 5);
        fault("add 1:;", 5);
        fault("add 1.0;", 5);
    }

    private static void everyByteAsSign() {
        checks.says("SIGNS ( ) ; + - * < =");
        for (int b = 0; b < 256; b++) {
            boolean joins = b == '+' || b == '-' || b == '*' || b == '<' || b == '=';
            boolean more = b >= '0' && b <= '9';
            int want = joins || more ? 1 : b == 32 || b == 10 ? -106 : b == ';' ? -106 : -105;
            due("1 and byte " + b + " and 2", read("add 1" + (char) b + "2;call 0;worth 0;"), want);
        }
        checks.says("also of a byte that begins none");
        for (int b = 0; b < 256; b++) {
            boolean begins = "();+-*<=".indexOf(b) >= 0 || b >= 'a' && b <= 'z' || b >= '0' && b <= '9' || b == 32 || b == 10;
            if (!begins) {
                fault("add 1+" + (char) b + ";", 6);
                fault(Lakes.PLAIN + (char) b, 21);
                fault((char) b + Lakes.PLAIN, 0);
            }
        }
        fault("add 1>2;", 5);
        fault("add 1!2;", 5);
        fault("add 1<=2;", 6);
        fault("add 1==2;", 6);
        fault("add 1+*2;", 6);
        fault("add [1];", 4);
    }

    private static void numbers() {
        checks.says("a NUMBER that is too long");
        good("add 9999;call 0;worth 0;");
        good("add 0000;call 0;worth 0;");
        fault("add 10000;call 0;worth 0;", 4);
        fault("add 00000;call 0;worth 0;", 4);
        fault("add 1+99999;call 0;worth 0;", 6);
        fault("add 99999999999999999999999;", 4);
        due("0012", worthOf("0012"), 12);
        due("9999 = 9999", worthOf("9999=10*999+9"), 1);
    }

    private static void words() {
        checks.says("a WORD that is neither KEY nor NAME");
        String[] names = {"weight", "wet", "ice", "wind", "number", "night"};
        for (String name : names) {
            good("add " + name + ";call " + name + ";worth " + name + ";");
            fault("add " + name + "s;", 4);
            fault("add " + name.substring(1) + ";", 4);
            fault("add " + name.substring(0, name.length() - 1) + ";", 4);
            fault("add x" + name + ";", 4);
            fault("add " + name + name + ";", 4);
            fault("add " + name.toUpperCase() + ";", 4);
        }
        String[] keys = {"add", "call", "worth", "or", "and", "not"};
        for (String key : keys) {
            fault("add 0 " + key + "s;", 6);
            fault("add " + key + "s;", 4);
            fault(key + "s 0;", 0);
        }
        fault("add w" + "e".repeat(150) + "t;", 4);
        checks.says("TOKENS, each as long as can be");
        good("add 1or 2and 3;call not 4;worth 5;");
        fault("add 1orwet;", 5);
        fault("add notwet;", 4);
        good("add not(wet);call 0;worth 0;");
        good("add not-wet;call 0;worth 0;");
    }

    private static void keysAreNoNames() {
        checks.says("add, call, worth, or, and, not are KEYS.");
        String[] keys = {"add", "call", "worth", "or", "and"};
        for (String key : keys) {
            fault("add " + key + ";call 0;worth 0;", 4);
            fault("add 1+" + key + ";call 0;worth 0;", 6);
            fault("add (" + key + ");call 0;worth 0;", 5);
        }
        String[] behind = {"add", "call", "worth", "not"};
        for (String key : behind) {
            fault("add 1 " + key + " 1;call 0;worth 0;", 6);
        }
        fault("add 1+not 1;", 6);
        fault("add 1*not 1;", 6);
        fault("add 1<not 1;", 6);
        fault("add 1=not 1;", 6);
        fault("add -not 1;", 5);
        good("add 1 and not 1 or not 1;call (not 1);worth not not 1;");
    }

    private static void endsTooEarly() {
        checks.says("(the text's size, if it ends too early)");
        String[] tokens = {"add", " ", "not", " ", "-", "(", "1", "+", "wet", ")", "<", "2", " ", "or", " ", "3", "*", "4", ";", "call",
            " ", "0", ";", "worth", "\n", "0", ";"};
        StringBuilder all = new StringBuilder();
        for (String token : tokens) {
            due("'" + all + "'", read(all.toString()), -100 - all.length());
            due("'" + all + "' and blanks", read(all + " \n "), -100 - all.length() - 3);
            all.append(token);
        }
        good(all.toString());
    }

    private static void lastByteOfAFullTape() {
        checks.says("the place of the first byte of the first TOKEN that can't stand there");
        for (int size = 0; size < 160; size++) {
            fault(" ".repeat(size) + "#", size);
            fault("\n".repeat(size) + ";", size);
        }
        fault("(".repeat(160), 0);
        fault(Lakes.PLAIN + " ".repeat(138) + "#", 159);
        fault("add" + " ".repeat(156) + ";", 159);
        fault(" ".repeat(160), 160);
        good(Lakes.PLAIN + " ".repeat(139));
        good(" ".repeat(139) + Lakes.PLAIN);
    }

    /** Five values wait at each of six levels, and one more comes: no text can have more of them at once. */
    private static void mostThatWait() {
        checks.says("while 5 of these are open");
        for (int last = 0; last <= 3; last++) {
            String text = "0or 1and 0<0+1*" + last;
            for (int open = 0; open < 5; open++) {
                text = "0or 1and 0<0+1*(" + text + ")";
            }
            due(text, worthOf(text), last > 0 ? 1 : 0);
            String sums = "0or 7and 3<2+1*" + last;
            for (int open = 0; open < 5; open++) {
                sums = "0or 7and 3<3+2*(" + sums + ")";
            }
            due(sums, worthOf(sums), last > 1 ? 1 : 0);
        }
    }

    private static void firstOfManyFaults() {
        checks.says("the place of the first byte of the first TOKEN that can't stand there");
        fault("add 1 2 x 12345 # ( ;", 6);
        fault("add # 1 2;", 4);
        fault("add 12345 #;", 4);
        fault("#add 12345;", 0);
        fault("add 1+ ; #", 7);
        fault("x", 0);
        fault("add 0;call 0;worth 0; add", 22);
        fault("add 0;call 0;worth 0;;", 21);
        fault("add ((1);call", 8);
        fault("add (1));call", 7);
        fault("add 1)+2;", 5);
        fault("add )", 4);
    }

    private static void parts() {
        checks.says("TEXT: add E ; call E ; worth E ;");
        good(Lakes.PLAIN);
        fault("call 0;add 0;worth 0;", 0);
        fault("worth 0;", 0);
        fault("add 0;worth 0;call 0;", 6);
        fault("add 0;call 0;call 0;", 13);
        fault("add 0;call 0;add 0;", 13);
        fault("add 0 call 0;", 6);
        fault("add ;", 4);
        fault("add 0;call ;", 11);
        fault("add 0;call 0;worth ;", 19);
        fault(";add 0;", 0);
        fault("0", 0);
        fault("(", 0);
    }

    private static void comparisons() {
        checks.says("NOT: not NOT, or SUM, perhaps < or = and a SUM.");
        fault("add 1<2<3;", 7);
        fault("add 1<2=3;", 7);
        fault("add 1=2<3;", 7);
        fault("add 1=2=3;", 7);
        fault("add not 1<2<3;", 11);
        due("(1<2)<3", worthOf("(1<2)<3"), 1);
        due("1<(2<3)", worthOf("1<(2<3)"), 0);
        due("a not takes the whole comparison", worthOf("not 0=0"), 0);
        due("as does a second one", worthOf("not not 3=3"), 1);
        due("2<2", worthOf("2<2"), 0);
        due("2<3", worthOf("2<3"), 1);
        due("3<2", worthOf("3<2"), 0);
        due("3=3", worthOf("3=3"), 1);
    }

    private static void openSigns() {
        checks.says("a ( , a not, a - ahead of a ONE while 5 of these are open");
        String[] opens = {"(", "-", "not "};
        for (int which = 0; which < 243; which++) {
            StringBuilder ahead = new StringBuilder();
            StringBuilder behind = new StringBuilder();
            boolean stands = true;
            int rest = which;
            boolean afterMinus = false;
            for (int k = 0; k < 5; k++) {
                int open = rest % 3;
                rest /= 3;
                stands = stands && !(afterMinus && open == 2);
                afterMinus = open == 1;
                ahead.append(opens[open]);
                if (open == 0) {
                    behind.insert(0, ')');
                }
            }
            if (!stands) {
                continue;
            }
            String text = "add " + ahead;
            good(text + "1" + behind + ";call 0;worth 0;");
            fault(text + "(1)" + behind + ";call 0;worth 0;", text.length());
            fault(text + "-1" + behind + ";call 0;worth 0;", text.length());
            fault(text + "not 1" + behind + ";call 0;worth 0;", text.length());
        }
    }

    private static void openTillTheirEnd() {
        checks.says("(a ( till its ) , not and - till what they belong to ends)");
        good("add (1)+(2)+(3)+(4)+(5)+(6)+(7)+(((((8)))));call 0;worth 0;");
        good("add -1-2-3-4-5-6--7---8----9-----1;call 0;worth 0;");
        good("add not 1 or not 2 or not 3 or not 4 or not 5 or not 6;call 0;worth 0;");
        good("add (((((1))))) + -----1 * (((((2)))));call not not not not not 1;worth -----1;");
        good("add not not not not not 1 or not not not not not 1;call 0;worth 0;");
        good("add not not not not not 1 and -----1;call 0;worth 0;");
        good("add not not not not -1 - -1;call 0;worth 0;");
        good("add ----(1)*-----1;call 0;worth 0;");
        good("add not not not not(1)<(2);call 0;worth 0;");
        fault("add not not not not not 1 = -1;", 28);
        fault("add not not not not not 1 * (1);", 28);
        fault("add not not not not (-1);", 21);
        fault("add ((((-1 + (-1)))));", 14);
        fault("add (((((1)+(1))))));", 19);
        good("add ((((-1 + -1))));call 0;worth 0;");
        good("add (((((1) + (1)))));call 0;worth 0;");
        good("add 1--1;call 0;worth 0;");
        good("add (((((1-1-1-1-1-1-1)))));call 0;worth 0;");
        fault("add (((((1--1)))));", 11);
        fault("add (((((1+-1)))));", 11);
        fault("add (((((1 and not 1)))));", 15);
        fault("add (((((not 1)))));", 9);
        fault("add (((((-1)))));", 9);
        fault("add (((((", 9);
        fault("add ((((((", 9);
        fault("add 0;call (((((0)))));worth ((((((0))))));", 34);
        fault("add 0;call ((((((0))))));", 16);
    }

    /** What an E is on a night with wet 2, ice 5, wind 61, cut to 0 .. 99. */
    private static int worthOf(String e) {
        WalkingStones x = new WalkingStones();
        x.night(25610);
        due("worth " + e, Checks.read(x, "add 0;call 0;worth " + e + ";"), 1);
        x.force(1);
        return x.look(8, 1);
    }

    private static void so(String e) {
        due(e, worthOf(e), 1);
    }

    private static void wraps() {
        checks.says("An E is an int (32 bits, wrapping)");
        due("the greatest is above 99", worthOf(GREATEST), 99);
        due("the least is below 0", worthOf(LEAST), 0);
        so(GREATEST + "+1=" + LEAST);
        so(LEAST + "-1=" + GREATEST);
        so("-" + LEAST + "=" + LEAST);
        so("0-" + LEAST + "=" + LEAST);
        so("-" + GREATEST + "-1=" + LEAST);
        so(GREATEST + "+" + GREATEST + "=-2");
        so(LEAST + "+" + LEAST + "=0");
        so(GREATEST + "*" + GREATEST + "=1");
        so(GREATEST + "*2=-2");
        so(LEAST + "*-1=" + LEAST);
        so(LEAST + "*" + LEAST + "=0");
        so("256*256*256*256=0");
        so("256*256*256*128<0");
        so("0<256*256*256*127");
        so(LEAST + "<1");
        so(LEAST + "<" + GREATEST);
        so("not " + GREATEST + "<-1");
        so("not " + GREATEST + "<" + LEAST);
        so("not " + GREATEST + "=" + LEAST);
        so("not 256*256*256*256+1=0");
        int[] factors = {21, 22, 42, 43, 64, 85, 86, 999, 9999};
        for (int factor : factors) {
            so("9999*9999*" + factor + "=" + written(9999 * 9999 * factor));
            so("0-9999*9999*" + factor + "=" + written(-9999 * 9999 * factor));
            so("9999*9999*9999*" + factor + "=" + written(9999 * 9999 * 9999 * factor));
        }
    }

    /** An int as a sum of numbers with four digits at most, none of which wraps. */
    private static String written(int value) {
        int places = 9999;
        return "(" + value / places / places + "*9999*9999+" + value / places % places + "*9999+" + value % places + ")";
    }

    private static void truth() {
        checks.says("of or, and, not, <, = 1 or 0 (what is not 0 is true)");
        String[] yes = {"1", "2", "-1", "256", "256*256", "256*256*256", "256*256*256*128", LEAST, GREATEST, "-256"};
        for (String e : yes) {
            so("not not " + e);
            so(e + " and " + e);
            so("0 or " + e);
            so(e + " or 0");
            due("not " + e, worthOf("not " + e), 0);
            due("0 and it", worthOf("0 and " + e), 0);
            due("it and 0", worthOf(e + " and 0"), 0);
        }
        String[] no = {"0", "-0", "1-1", "256*256*256*256", LEAST + "*2"};
        for (String e : no) {
            so("not " + e);
            due("not not " + e, worthOf("not not " + e), 0);
            due("1 and it", worthOf("1 and " + e), 0);
            due("0 or it", worthOf("0 or " + e), 0);
        }
        due("1, not 7", worthOf("7 or 7"), 1);
        due("1, not 7", worthOf("7 and 7"), 1);
        due("five times 1", worthOf("(7 and 7)+(0 or 7)+(7=7)+(6<7)+(not 0)"), 5);
        due("five times 0", worthOf("(7 and 0)+(0 or 0)+(7=6)+(7<7)+(not 7)"), 0);
    }

    /** How far a how that pushes a stone 4 squares pushes it by an add. */
    private static int pushed(String add) {
        WalkingStones x = new WalkingStones();
        x.stone(5, 2080);
        x.how(0, 7);
        x.night(23500);
        due("add " + add, Checks.read(x, "add " + add + ";call 0;worth 0;"), 1);
        x.force(1);
        return x.told(0, 0, 0, 2);
    }

    private static void addBounds() {
        checks.says("(-9 .. 9, else the bound; 0 at least in all)");
        for (int add = -20; add <= 20; add++) {
            due("4 and " + add, pushed((add < 0 ? "-" : "") + Math.abs(add)), Math.max(0, 4 + Math.max(-9, Math.min(9, add))));
        }
        due("the greatest", pushed(GREATEST), 13);
        due("the least", pushed(LEAST), 0);
        due("wrapped to the least", pushed(GREATEST + "+1"), 0);
        due("wrapped to the greatest", pushed(LEAST + "-1"), 13);
        due("256 is no 0", pushed("256"), 13);
        due("wrapped to 0", pushed("256*256*256*256"), 4);
        checks.says("by how much it PUSHES more, if that is above 0 without it");
        WalkingStones x = new WalkingStones();
        x.stone(5, 2080);
        x.how(0, 0);
        Checks.read(x, "add 9;call 0;worth 0;");
        x.force(1);
        int[] weathers = {10000, 10100, 10190, 10200, 200, 990, 10990};
        int[] due = {0, 0, 0, 10, 0, 0, 17};
        for (int night = 0; night < weathers.length; night++) {
            x.night(weathers[night]);
            due("night " + weathers[night], x.told(0, 0, night, 2), due[night]);
        }
        checks.says("weight; wet; ice; wind; number: NUMBER; night: its number.");
        due("weight", pushed("weight"), 9);
        due("wet", pushed("wet"), 6);
        due("ice", pushed("ice"), 7);
        due("wind", pushed("wind-45"), 9);
        due("number", pushed("number"), 11);
        due("night", pushed("night"), 4);
    }

    private static void callBounds() {
        checks.says("CALLED: NIGHTS on which call isn't 0: how many; of these on how many some STONE is PUSHED.");
        String[] calls = {"0", "1", "-1", "2", "256", "256*256*256*256", "256*256*256*128", LEAST, GREATEST, "1-1", "weight-4",
            "weight-5", "number-7", "night", "night-2", "wind-50", "wet-1", "ice-3"};
        int[] due = {0, 3, 3, 3, 3, 0, 3, 3, 3, 0, 0, 3, 0, 2, 2, 1, 1, 1};
        int[] pushed = {0, 1, 1, 1, 1, 0, 1, 1, 1, 0, 0, 1, 0, 0, 1, 0, 0, 0};
        for (int i = 0; i < calls.length; i++) {
            WalkingStones x = new WalkingStones();
            x.stone(6, 0);
            x.stone(4, 100);
            x.stone(99, 200);
            x.how(0, 7);
            x.night(13500);
            x.night(3500);
            x.night(14000);
            due("call " + calls[i], Checks.read(x, "add 0;call " + calls[i] + ";worth 0;"), 1);
            x.force(1);
            due("called by " + calls[i], x.seldom(0, 4), due[i]);
            due("called by " + calls[i] + ", and pushed", x.seldom(0, 5), pushed[i]);
        }
    }

    private static void worthBounds() {
        checks.says("worth: of a look at a NIGHT (0 .. 99, else the bound; weight, number 0).");
        int[] values = {0, 1, 98, 99, 100, 101, 256, 9999};
        for (int value : values) {
            due("worth " + value, worthOf("" + value), Math.min(99, value));
            due("worth -" + value, worthOf("-" + value), 0);
        }
        WalkingStones x = new WalkingStones();
        x.stone(50, 0);
        x.how(0, 20);
        x.night(10000);
        Checks.read(x, "add 0;call 0;worth weight+number;");
        x.force(1);
        due("a how that was asked of", x.told(0, 0, 0, 2), 0);
        x.night(10990);
        x.stone(1, 1);
        due("pushed by wind less twice weight, add 0", x.told(0, 1, 1, 2), 9);
        due("weight and number are 0, whatever lies there", x.look(99, 1), 0);
        due("and none is looked at", x.look(99, 0), 0);
    }

    private static void lightest() {
        checks.says("(weight: that of the lightest STONE, 0 without any)");
        int[][] weights = {{}, {7}, {7, 9}, {9, 7}, {9, 7, 8}, {7, 8, 9}, {9, 8, 7}, {99, 98, 97, 96, 95, 94, 93, 92, 91, 7},
            {7, 7}, {99}, {1, 99}};
        for (int[] row : weights) {
            WalkingStones x = new WalkingStones();
            int least = row.length == 0 ? 0 : 99;
            for (int i = 0; i < row.length; i++) {
                x.stone(row[i], i);
                least = Math.min(least, row[i]);
            }
            x.how(0, 0);
            x.night(0);
            Checks.read(x, "add 0;call weight=" + least + ";worth 0;");
            x.force(1);
            due("lightest " + least, x.seldom(0, 4), 1);
        }
    }

    private static void bindings() {
        checks.says("E: AND { or AND }. AND: NOT { and NOT }.");
        due("1 or (0 and 0)", worthOf("1 or 0 and 0"), 1);
        due("(0 and 0) or 1", worthOf("0 and 0 or 1"), 1);
        due("0 and (0 or 1)", worthOf("0 and (0 or 1)"), 0);
        checks.says("SUM: TERM { + or - TERM }. TERM: ONE { * ONE }.");
        due("1+2*3", worthOf("1+2*3"), 7);
        due("2*3+1", worthOf("2*3+1"), 7);
        due("9-3-2", worthOf("9-3-2"), 4);
        due("9-(3-2)", worthOf("9-(3-2)"), 8);
        due("9-3+2", worthOf("9-3+2"), 8);
        due("-3+9", worthOf("-3+9"), 6);
        due("-3*-3", worthOf("-3*-3"), 9);
        due("2*3*4", worthOf("2*3*4"), 24);
    }

    private static void tapesLeaveNothing() {
        checks.says("THE TAPE, which is empty then");
        WalkingStones x = new WalkingStones();
        due("a long word", Checks.read(x, "add 0;callcall;worth 123456789;" + "z".repeat(129)), -106);
        due("its rest is not read", Checks.read(x, "add 0;call"), -110);
        due("a long number", Checks.read(x, "1".repeat(160)), -100);
        due("its rest is not read", Checks.read(x, "add 123"), -107);
        due("160 signs", Checks.read(x, ";".repeat(160)), -100);
        due("160 signs, the first of them stand", Checks.read(x, "add " + "(".repeat(156)), -109);
        due("a text", Checks.read(x, "add 9;call 9;worth 9;"), 1);
        due("a shorter one ends early", Checks.read(x, "add 9;call 9;worth 9"), -120);
        due("an empty one", x.text(), -100);
        due("one text came", x.count(6), 2);
    }

    private static void firstRule() {
        checks.says("TEXT 0, at first THE RULE, is: add 0 ; call 0 < ice ; worth wind ;");
        WalkingStones x = new WalkingStones();
        x.stone(5, 2080);
        x.how(0, 0);
        for (int ice = 0; ice <= 9; ice++) {
            x.night(10500 + 1000 * ice);
            due("called with ice", x.seldom(0, 4), ice);
            due("nothing more", x.told(0, 0, ice, 2), 4);
        }
        due("worth wind", x.look(3, 1), 50);
        due("the rule", x.count(8), 0);
        due("it can be read as a text", Checks.read(x, "add 0 ; call 0 < ice ; worth wind ;"), 1);
        due("forced", x.force(1), 0);
        due("called", x.seldom(0, 4), 9);
        due("worth", x.look(3, 1), 50);
        due("and again", x.force(0), 1);
    }
}
