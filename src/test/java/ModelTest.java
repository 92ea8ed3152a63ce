import java.nio.charset.StandardCharsets;
import java.util.Random;

/** Long runs of calls, chosen by fixed seeds, on the program and on the plain model: all answers must be alike. */
public final class ModelTest {
    private static final int RUNS = 1500, CALLS = 512;
    private static final String[] TOKENS = {"add", "call", "worth", ";", ";", "(", ")", "not", "and", "or", "-", "+", "*", "<", "=",
        "weight", "wet", "ice", "wind", "number", "night", "0", "7", "9999", "12345", "x", "#", " ", "\n", "nota"};
    private static final String[] NAMES = {"weight", "wet", "ice", "wind", "number", "night", "0", "1", "3", "50", "9999"};

    private final Checks checks;
    private final Random random;
    private final WalkingStones x = new WalkingStones();
    private final PlainModel y = new PlainModel();
    private final boolean quiet;
    private int calls;

    private ModelTest(Checks checks, long seed) {
        this.checks = checks;
        this.random = new Random(seed);
        this.quiet = random.nextBoolean();
    }

    public static void main(String[] args) {
        Checks checks = new Checks();
        for (int seed = 0; seed < RUNS; seed++) {
            checks.at("seed " + seed);
            new ModelTest(checks, seed).go();
        }
        checks.end();
    }

    private void go() {
        for (int k = 0; k < 6 + random.nextInt(20); k++) {
            call(random.nextInt(3));
        }
        while (calls < CALLS) {
            call(random.nextInt(34));
        }
    }

    /** Mostly a number below so many, sometimes one that is none such. */
    private int some(int below) {
        int dice = random.nextInt(quiet ? 60 : 12);
        if (dice == 0) {
            int[] odd = {-1, below, below + 1, Integer.MIN_VALUE, Integer.MAX_VALUE, -below};
            return odd[random.nextInt(odd.length)];
        }
        return random.nextInt(Math.max(1, below));
    }

    private int weather() {
        if (random.nextInt(20) == 0) {
            return random.nextInt(120000) - 10000;
        }
        int wet = random.nextInt(4);
        int wind = random.nextInt(3) == 0 ? random.nextInt(100) : 50 + random.nextInt(50);
        return 10000 * wet + 1000 * random.nextInt(10) + 10 * wind + random.nextInt(4);
    }

    private int place() {
        return random.nextInt(3) == 0 ? some(4096) : 64 * (20 + random.nextInt(8)) + 20 + random.nextInt(8);
    }

    private int span() {
        int n = Math.max(1, y.count(1));
        int to = random.nextInt(n);
        return random.nextInt(8) == 0 ? some(6000) : 100 * random.nextInt(to + 1) + to;
    }

    private void due(String call, long got, long want) {
        calls++;
        checks.due(calls + ": " + call, got, want);
    }

    private String one(int depth) {
        int dice = random.nextInt(depth > 4 ? 3 : 6);
        if (dice < 3) return NAMES[random.nextInt(NAMES.length)];
        if (dice == 3) return "-" + one(depth + 1);
        return "(" + expression(depth + 1) + ")";
    }

    private String sum(int depth) {
        StringBuilder all = new StringBuilder(one(depth));
        String[] signs = {"+", "-", " * ", "*"};
        for (int k = random.nextInt(3); k > 0; k--) all.append(signs[random.nextInt(4)]).append(one(depth));
        return all.toString();
    }

    private String comparison(int depth) {
        int dice = random.nextInt(6);
        if (dice == 0 && depth < 5) return "not " + comparison(depth + 1);
        return sum(depth) + (dice == 1 ? "<" + sum(depth) : dice == 2 ? " = " + sum(depth) : "");
    }

    private String expression(int depth) {
        StringBuilder all = new StringBuilder(comparison(depth));
        while (random.nextInt(5) == 0) all.append(random.nextBoolean() ? " or " : " and ").append(comparison(depth));
        return all.toString();
    }

    /** A text that mostly is one, sometimes with a token put in, taken out or cut off. */
    private String someText() {
        String text = "add " + expression(0) + ";call " + expression(0) + "; worth " + expression(0) + ";";
        int at = random.nextInt(text.length());
        switch (random.nextInt(6)) {
            case 0: return text.substring(0, at) + TOKENS[random.nextInt(TOKENS.length)] + text.substring(at);
            case 1: return text.substring(0, at);
            case 2: return text.substring(0, at) + text.substring(Math.min(text.length(), at + 1 + random.nextInt(3)));
            case 3: return tokenRow();
            default: return text;
        }
    }

    private String tokenRow() {
        StringBuilder all = new StringBuilder("add ");
        for (int k = random.nextInt(20); k > 0; k--) all.append(TOKENS[random.nextInt(TOKENS.length)]).append(random.nextBoolean() ? " " : "");
        return all.toString();
    }

    private void feedText(String text) {
        byte[] bytes = text.getBytes(StandardCharsets.ISO_8859_1);
        int from = 0;
        while (from < bytes.length) {
            int n = Math.min(1 + random.nextInt(8), bytes.length - from);
            long packed = Checks.packed(bytes, from, n) | (n < 8 ? random.nextLong() << 8 * n : 0);
            due("feed " + text, x.feed(n, packed), y.feed(n, packed));
            from += n;
        }
        due("text " + text, x.text(), y.text());
    }

    private void call(int which) {
        int stones = y.count(0), nights = y.count(1), hows = y.count(2), tracks = y.count(3);
        int h = some(hows), s = some(stones), n = some(nights), t = some(tracks), u = some(tracks);
        int what, far, sheet = some(4), sort = some(3), i = some(8), k;
        switch (which) {
            case 0: { int w = random.nextInt(3) == 0 ? some(100) : 1 + random.nextInt(20), p = place();
                due("stone " + w + " " + p, x.stone(w, p), y.stone(w, p)); break; }
            case 1: { int w = weather(); due("night " + w, x.night(w), y.night(w)); break; }
            case 2: what = some(6); k = some(21); due("how " + what + " " + k, x.how(what, k), y.how(what, k)); break;
            case 3: what = some(2); due("stoneTold", x.stoneTold(s, what), y.stoneTold(s, what)); break;
            case 4: what = some(3); due("told " + h + " " + s + " " + n + " " + what, x.told(h, s, n, what), y.told(h, s, n, what)); break;
            case 5: due("needs " + h + " " + s + " " + n, x.needs(h, s, n), y.needs(h, s, n)); break;
            case 6: if (random.nextInt(6) == 0) { feedText(someText()); } else { what = some(8);
                if (random.nextInt(9) == 0) due("feed", x.feed(what, 0x2020202020202020L), y.feed(what, 0x2020202020202020L)); } break;
            case 7: what = some(y.count(6)); due("force " + what, x.force(what), y.force(what)); break;
            case 8: what = some(3); k = span(); due("run " + h + " " + k + " " + s + " " + what, x.run(h, k, s, what), y.run(h, k, s, what)); break;
            case 9: k = span(); if (random.nextInt(3) == 0) due("lay " + h + " " + k, x.lay(h, k), y.lay(h, k)); break;
            case 10: { int length = random.nextInt(4) == 0 ? some(1000) : random.nextInt(30), turns = random.nextInt(9) == 0 ? some(100) : random.nextInt(5);
                due("track", x.track(s, length, turns), y.track(s, length, turns)); break; }
            case 11: what = some(100); due("together", x.together(t, u, what), y.together(t, u, what)); break;
            case 12: what = random.nextBoolean() ? some(100) : random.nextInt(6); due("groups " + what, x.groups(what), y.groups(what)); break;
            case 13: due("fits " + t + " " + h, x.fits(t, h), y.fits(t, h)); break;
            case 14: case 15: what = some(2); k = random.nextInt(5) == 0 ? some(70000) : random.nextInt(1 << Math.min(16, tracks));
                due("odds " + h + " " + k + " " + what, x.odds(h, k, what), y.odds(h, k, what)); break;
            case 16: k = place(); if (random.nextInt(3) == 0) due("peg " + k, x.peg(k), y.peg(k)); break;
            case 17: far = some(64); due("holds", x.holds(s, far), y.holds(s, far)); break;
            case 18: far = some(64); due("bars", x.bars(h, far), y.bars(h, far)); break;
            case 19: what = some(6); due("seldom " + h + " " + what, x.seldom(h, what), y.seldom(h, what)); break;
            case 20: due("when " + h + " " + s, x.when(h, s), y.when(h, s)); break;
            case 21: due("cross " + t + " " + u, x.cross(t, u), y.cross(t, u)); break;
            case 22: due("order " + t, x.order(t), y.order(t)); break;
            case 23: what = some(3); k = some(100); due("look " + k + " " + what, x.look(k, what), y.look(k, what)); break;
            case 24: due("foretold " + h + " " + n, x.foretold(h, n), y.foretold(h, n)); break;
            case 25: fillForHeld(h, n); due("held", x.held(h, n, sheet), y.held(h, n, sheet)); break;
            case 26: if (random.nextInt(4) == 0) due("image", x.image(), y.image()); break;
            case 27: if (random.nextInt(3) == 0) due("back", x.back(), y.back()); break;
            case 28: what = some(9); due("count " + what, x.count(what), y.count(what)); break;
            case 29: what = random.nextInt(4) == 0 ? -1 : sort; k = some(random.nextBoolean() ? 41 : 8);
                due("sheet", x.sheet(sheet, what, k), y.sheet(sheet, what, k)); break;
            case 30: { int v = random.nextInt(4) == 0 ? random.nextInt() : random.nextBoolean() ? weather() : random.nextInt(2);
                due("cell", x.cell(sheet, i, v), y.cell(sheet, i, v)); break; }
            case 31: what = some(4); k = some(6); far = some(8);
                due("copy", x.copy(sheet, i, what, far, k), y.copy(sheet, i, what, far, k)); break;
            case 32: k = some(quiet ? 3 : 21); due("nights", x.nights(sheet, sort, i, k), y.nights(sheet, sort, i, k)); break;
            default: what = some(6); due("taken", x.taken(h, what), y.taken(h, what)); break;
        }
    }

    /** Makes sheet 1 right for a night, so that HELD goes on to the last stones; sometimes one is wrong. */
    private void fillForHeld(int how, int night) {
        if (random.nextBoolean()) return;
        int bits = y.foretold(how, night), size = y.count(0);
        due("sheet", x.sheet(1, 0, size), y.sheet(1, 0, size));
        for (int s = 0; s < size; s++) {
            int v = (bits >> s & 1) ^ (random.nextInt(12) == 0 ? 1 : 0);
            due("cell", x.cell(1, s, v), y.cell(1, s, v));
        }
        due("held", x.held(how, night, 1), y.held(how, night, 1));
    }
}
