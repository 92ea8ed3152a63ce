import java.math.BigInteger;
import java.util.ArrayList;
import java.util.List;

/**
 * The document once more, in other ways than the program: square by square, sets tried one by one, texts
 * checked token by token by an automaton and computed as strings. Only for comparing answers.
 */
final class PlainModel {
    static final int NONE = -1, BAD = -2, STATE = -3, FULL = -4;
    static final long NO = -4611686018427387904L;
    private static final int[] DX = {1, 0, -1, 0}, DY = {0, 1, 0, -1};

    private record Night(int wet, int ice, int wind, int way) { }

    private record How(int kind, int number) { }

    private record Track(int stone, int length, int turns) { }

    private record Pair(int over, int under) { }

    private record Parts(List<String> add, List<String> call, List<String> worth) { }

    private final List<Integer> weights = new ArrayList<>();
    private List<Integer> places = new ArrayList<>();
    private final List<Night> nights = new ArrayList<>();
    private final List<How> hows = new ArrayList<>();
    private final List<Parts> texts = new ArrayList<>();
    private List<Track> tracks = new ArrayList<>();
    private List<Pair> crosses = new ArrayList<>();
    private List<Integer> pegs = new ArrayList<>();
    private final StringBuilder tape = new StringBuilder();
    private int rule;
    private Object[] image;
    private final int[][] sheets = new int[4][];
    private final int[] sorts = new int[4];

    PlainModel() {
        texts.add(new Parts(List.of("0"), List.of("0", "<", "ice"), List.of("wind")));
    }

    private static boolean in(int i, int size) {
        return i >= 0 && i < size;
    }

    int stone(int weight, int place) {
        if (weight < 1 || weight > 99 || !in(place, 4096)) return BAD;
        if (places.contains(place)) return STATE;
        if (weights.size() == 10) return FULL;
        weights.add(weight);
        places.add(place);
        return weights.size() - 1;
    }

    int night(int weather) {
        for (int wet = 0; wet <= 9; wet++) {
            for (int ice = 0; ice <= 9; ice++) {
                for (int way = 0; way <= 3; way++) {
                    int left = weather - 10000 * wet - 1000 * ice - way;
                    if (weather >= 0 && left >= 0 && left % 10 == 0 && left / 10 <= 99) {
                        if (nights.size() == 60) return FULL;
                        nights.add(new Night(wet, ice, left / 10, way));
                        return nights.size() - 1;
                    }
                }
            }
        }
        return BAD;
    }

    int how(int kind, int number) {
        if (!in(kind, 6) || !in(number, 21)) return BAD;
        if (hows.size() == 8) return FULL;
        hows.add(new How(kind, number));
        return hows.size() - 1;
    }

    int stoneTold(int stone, int what) {
        if (!in(stone, weights.size()) || !in(what, 2)) return -5;
        return what == 0 ? weights.get(stone) : places.get(stone);
    }

    private static boolean may(int kind, Night night) {
        return switch (kind) {
            case 0 -> night.wet != 0;
            case 1, 5 -> may(0, night);
            case 2 -> may(1, night) && night.ice > 2;
            case 3 -> may(2, night) && night.ice > 5;
            default -> may(1, night) && night.ice > 0 && night.ice < 5;
        };
    }

    private static int drag(int kind, int number, int weight) {
        return switch (kind) {
            case 0 -> weight + weight;
            case 1 -> drag(0, number, weight) + number;
            case 2 -> drag(1, number, weight) / 4;
            case 3 -> number;
            case 4 -> drag(2, number, weight) / 2;
            default -> 0;
        };
    }

    private int pushes(How how, int weight, Night night, int number) {
        if (!may(how.kind, night)) return 0;
        int bare = Math.max(0, (night.wind - drag(how.kind, how.number, weight)) / 10);
        if (how.kind == 3) bare = Math.min(bare, 9);
        if (how.kind == 4) bare = bare > 0 ? bare + 1 : 0;
        if (how.kind == 5) bare = how.number > weight / 5 ? 1 : 0;
        if (bare == 0) return 0;
        int add = value(texts.get(rule).add, weight, night, how.number, number);
        add = add < -9 ? -9 : add > 9 ? 9 : add;
        return Math.max(bare + add, 0);
    }

    private int pushes(int how, int stone, int night) {
        return pushes(hows.get(how), weights.get(stone), nights.get(night), night);
    }

    int told(int how, int stone, int night, int what) {
        if (!in(how, hows.size()) || !in(stone, weights.size()) || !in(night, nights.size()) || !in(what, 3)) return BAD;
        How h = hows.get(how);
        if (what == 0) return may(h.kind, nights.get(night)) ? 1 : 0;
        return what == 1 ? drag(h.kind, h.number, weights.get(stone)) : pushes(how, stone, night);
    }

    int needs(int how, int stone, int night) {
        if (!in(how, hows.size()) || !in(stone, weights.size()) || !in(night, nights.size())) return BAD;
        Night n = nights.get(night);
        for (int wind = 0; wind < 100; wind++) {
            Night tried = new Night(n.wet, n.ice, wind, n.way);
            if (pushes(hows.get(how), weights.get(stone), tried, night) > 0) return wind;
        }
        return NONE;
    }

    // ---- texts

    int feed(int n, long bytes) {
        if (n < 1 || n > 8) return BAD;
        if (tape.length() + n > 160) return FULL;
        for (int k = 0; k < n; k++) {
            tape.append((char) (bytes & 255));
            bytes >>>= 8;
        }
        return tape.length();
    }

    int text() {
        if (texts.size() == 6) return FULL;
        String whole = tape.toString();
        tape.setLength(0);
        List<String> tokens = new ArrayList<>();
        List<Integer> at = new ArrayList<>();
        java.util.regex.Matcher m = java.util.regex.Pattern.compile("[a-z]+|[0-9]+|[^ \n]", java.util.regex.Pattern.DOTALL)
            .matcher(whole);
        while (m.find()) {
            tokens.add(m.group());
            at.add(m.start());
        }
        at.add(whole.length());
        int fault = faultyToken(tokens);
        if (fault >= 0) return -100 - at.get(fault);
        int first = tokens.indexOf(";"), last = tokens.lastIndexOf(";");
        int second = first + 1 + tokens.subList(first + 1, tokens.size()).indexOf(";");
        texts.add(new Parts(new ArrayList<>(tokens.subList(1, first)), new ArrayList<>(tokens.subList(first + 2, second)),
            new ArrayList<>(tokens.subList(second + 2, last))));
        return texts.size() - 1;
    }

    private static boolean isName(String t) {
        return t.matches("weight|wet|ice|wind|number|night");
    }

    /** An automaton with a stack of what is open; the token's number, or -1. */
    private static int faultyToken(List<String> tokens) {
        String[] keys = {"add", "call", "worth"};
        int part = 0;
        // What may come: k a key or the end, n an E's or NOT's start, s a SUM's or TERM's start, o what stands behind a ONE.
        char state = 'k';
        StringBuilder open = new StringBuilder();
        StringBuilder compared = new StringBuilder("0");
        for (int i = 0; i < tokens.size(); i++) {
            String t = tokens.get(i);
            if (state == 'k') {
                if (part == 3 || !t.equals(keys[part])) return i;
                state = 'n';
            } else if (state == 'n' || state == 's') {
                boolean opens = t.equals("(") || t.equals("-") || (t.equals("not") && state == 'n');
                if (opens) {
                    if (open.length() == 5) return i;
                    open.append(t.charAt(0));
                    if (t.equals("(")) compared.append('0');
                    state = t.equals("-") ? 's' : 'n';
                } else if (t.matches("[0-9]{1,4}") || isName(t)) {
                    state = 'o';
                } else {
                    return i;
                }
            } else {
                int top = compared.length() - 1;
                boolean ends = t.equals("and") || t.equals("or") || t.equals(")") || t.equals(";");
                if (t.equals("*") || t.equals("+") || t.equals("-")) {
                    state = 's';
                } else if (t.equals("<") || t.equals("=")) {
                    if (compared.charAt(top) == '1') return i;
                    compared.setCharAt(top, '1');
                    state = 's';
                } else if (ends) {
                    int left = open.length();
                    while (left > 0 && open.charAt(left - 1) == 'n') left--;
                    if (t.equals(")")) {
                        if (left == 0) return i;
                        open.setLength(left - 1);
                        compared.setLength(top);
                    } else if (t.equals(";")) {
                        if (left > 0) return i;
                        open.setLength(0);
                        compared.setCharAt(0, '0');
                        part++;
                        state = 'k';
                    } else {
                        open.setLength(left);
                        compared.setCharAt(top, '0');
                        state = 'n';
                    }
                } else {
                    return i;
                }
            }
            if (state == 'o') {
                while (open.length() > 0 && open.charAt(open.length() - 1) == '-') open.setLength(open.length() - 1);
            }
        }
        return part == 3 && state == 'k' ? -1 : tokens.size();
    }

    /** Computes by splitting at the loosest sign that stands outside all ( ). */
    private int value(List<String> e, int weight, Night n, int number, int night) {
        List<String> numbers = new ArrayList<>();
        for (String t : e) {
            numbers.add(switch (t) {
                case "weight" -> "" + weight;
                case "wet" -> "" + n.wet;
                case "ice" -> "" + n.ice;
                case "wind" -> "" + n.wind;
                case "number" -> "" + number;
                case "night" -> "" + night;
                default -> t;
            });
        }
        return (int) split(numbers);
    }

    private static long split(List<String> e) {
        int at = lastOutside(e, "or");
        if (at > 0) return split(e.subList(0, at)) != 0 | split(e.subList(at + 1, e.size())) != 0 ? 1 : 0;
        at = lastOutside(e, "and");
        if (at > 0) return split(e.subList(0, at)) != 0 & split(e.subList(at + 1, e.size())) != 0 ? 1 : 0;
        if (e.get(0).equals("not")) return split(e.subList(1, e.size())) == 0 ? 1 : 0;
        at = lastOutside(e, "<=");
        if (at > 0) {
            long left = split(e.subList(0, at)), right = split(e.subList(at + 1, e.size()));
            return (e.get(at).equals("<") ? left < right : left == right) ? 1 : 0;
        }
        at = lastOutside(e, "+-");
        if (at > 0) {
            long left = split(e.subList(0, at)), right = split(e.subList(at + 1, e.size()));
            return (int) (e.get(at).equals("+") ? left + right : left - right);
        }
        at = lastOutside(e, "*");
        if (at > 0) return (int) (split(e.subList(0, at)) * split(e.subList(at + 1, e.size())));
        if (e.get(0).equals("-")) return (int) -split(e.subList(1, e.size()));
        if (e.get(0).equals("(")) return split(e.subList(1, e.size() - 1));
        return Long.parseLong(e.get(0));
    }

    /** The last place outside all ( ) of a sign between two ONES; 0, if there is none. */
    private static int lastOutside(List<String> e, String signs) {
        int depth = 0;
        for (int i = e.size() - 1; i > 0; i--) {
            String t = e.get(i);
            if (t.equals(")")) depth++;
            if (t.equals("(")) depth--;
            boolean asked = signs.length() > 1 && Character.isLetter(signs.charAt(0)) ? t.equals(signs)
                : t.length() == 1 && signs.contains(t);
            boolean behindOne = e.get(i - 1).matches("[0-9]+|\\)");
            if (depth == 0 && asked && behindOne) return i;
        }
        return 0;
    }

    int force(int text) {
        if (!in(text, texts.size())) return BAD;
        int was = rule;
        rule = text;
        return was;
    }

    // ---- runs, tracks

    /** Rows: went, at, turns. */
    private int[][] walked(int how, int from, int to) {
        int size = weights.size();
        int[][] rows = new int[3][size];
        int[] last = new int[size];
        List<Integer> at = new ArrayList<>(places);
        for (int night = from; night <= to; night++) {
            for (int s = 0; s < size; s++) {
                int way = hows.get(how).kind == 5 ? 1 : nights.get(night).way;
                int gone = 0;
                for (int k = pushes(how, s, night); k > 0 && next(at, s, way) >= 0; k--) {
                    at.set(s, next(at, s, way));
                    gone++;
                }
                rows[0][s] += gone;
                if (gone > 0) {
                    if (last[s] != 0 && last[s] != way + 1) rows[2][s]++;
                    last[s] = way + 1;
                }
            }
        }
        for (int s = 0; s < size; s++) rows[1][s] = at.get(s);
        return rows;
    }

    /** The square that a stone can go to, or -1. */
    private static int next(List<Integer> at, int stone, int way) {
        int x = at.get(stone) % 64 + DX[way], y = at.get(stone) / 64 + DY[way];
        if (!in(x, 64) || !in(y, 64)) return -1;
        for (int other = 0; other < at.size(); other++) {
            if (other != stone && at.get(other) == 64 * y + x) return -1;
        }
        return 64 * y + x;
    }

    private boolean isSpan(int span) {
        return span >= 0 && span % 100 < nights.size() && span / 100 <= span % 100;
    }

    int run(int how, int span, int stone, int what) {
        if (!in(how, hows.size()) || !isSpan(span) || !in(stone, weights.size()) || !in(what, 3)) return BAD;
        return walked(how, span / 100, span % 100)[what][stone];
    }

    int lay(int how, int span) {
        if (!in(how, hows.size()) || !isSpan(span)) return BAD;
        int[][] rows = walked(how, span / 100, span % 100);
        int all = 0;
        for (int s = 0; s < weights.size(); s++) {
            places.set(s, rows[1][s]);
            all += rows[0][s];
        }
        return all;
    }

    int track(int stone, int length, int turns) {
        if (!in(stone, weights.size()) || !in(length, 1000) || !in(turns, 100)) return BAD;
        if (tracks.size() == 24) return FULL;
        tracks.add(new Track(stone, length, turns));
        return tracks.size() - 1;
    }

    private boolean isTogether(int a, int b, int off) {
        Track s = tracks.get(a), t = tracks.get(b);
        return s.turns == t.turns && Math.abs(s.length - t.length) <= off;
    }

    int together(int a, int b, int off) {
        if (!in(a, tracks.size()) || !in(b, tracks.size()) || a == b || !in(off, 100)) return BAD;
        return isTogether(a, b, off) ? 1 : 0;
    }

    int groups(int off) {
        if (!in(off, 100)) return BAD;
        boolean[] seen = new boolean[tracks.size()];
        int many = 0;
        for (int t = 0; t < tracks.size(); t++) {
            if (!seen[t]) {
                many++;
                spread(t, off, seen);
            }
        }
        return many;
    }

    private void spread(int from, int off, boolean[] seen) {
        seen[from] = true;
        for (int t = 0; t < tracks.size(); t++) {
            if (!seen[t] && isTogether(from, t, off)) spread(t, off, seen);
        }
    }

    int fits(int track, int how) {
        if (!in(track, tracks.size()) || !in(how, hows.size())) return BAD;
        Track t = tracks.get(track);
        int[][] rows = walked(how, 0, nights.size() - 1);
        int fit = 9 - Math.abs(t.length - rows[0][t.stone]) - 3 * Math.abs(t.turns - rows[2][t.stone]);
        return fit < 1 ? 1 : fit;
    }

    long odds(int how, int bits, int part) {
        if (!in(how, hows.size()) || !in(part, 2) || bits < 0 || bits > 65535) return NO;
        BigInteger above = null, below = BigInteger.ZERO;
        for (int h = 0; h < hows.size(); h++) {
            BigInteger product = BigInteger.ONE;
            for (int t = 0; t < 16; t++) {
                if ((bits & 1 << t) != 0) {
                    if (t >= tracks.size()) return NO;
                    product = product.multiply(BigInteger.valueOf(fits(t, h)));
                }
            }
            below = below.add(product);
            if (h == how) above = product;
        }
        BigInteger asked = part == 0 ? above : below;
        return asked.divide(above.gcd(below)).longValueExact();
    }

    // ---- pegs, nights

    int peg(int place) {
        if (!in(place, 4096)) return BAD;
        if (pegs.size() == 8) return FULL;
        pegs.add(place);
        return pegs.size();
    }

    int holds(int stone, int far) {
        if (!in(stone, weights.size()) || !in(far, 64)) return BAD;
        int x = places.get(stone) % 64, y = places.get(stone) / 64;
        boolean up = false, down = false, left = false, right = false;
        for (int off = 1; off <= far; off++) {
            for (int peg : pegs) {
                up |= peg / 64 == y - off;
                down |= peg / 64 == y + off;
                left |= peg % 64 == x - off;
                right |= peg % 64 == x + off;
            }
        }
        return up && down && left && right ? 1 : 0;
    }

    int bars(int how, int far) {
        if (!in(how, hows.size()) || !in(far, 64)) return BAD;
        int[] at = walked(how, 0, nights.size() - 1)[1];
        int many = 0;
        for (int s = 0; s < weights.size(); s++) {
            if (holds(s, far) == 1) {
                int x = at[s] % 64, y = at[s] / 64;
                if (x < pegs.stream().mapToInt(p -> p % 64).min().getAsInt() || x > pegs.stream().mapToInt(p -> p % 64).max().getAsInt()
                    || y < pegs.stream().mapToInt(p -> p / 64).min().getAsInt()
                    || y > pegs.stream().mapToInt(p -> p / 64).max().getAsInt()) many++;
            }
        }
        return many;
    }

    private boolean some(int how, int night) {
        for (int s = 0; s < weights.size(); s++) if (pushes(how, s, night) > 0) return true;
        return false;
    }

    long seldom(int how, int what) {
        if (!in(how, hows.size()) || !in(what, 6)) return NO;
        StringBuilder row = new StringBuilder();
        int called = 0, both = 0;
        int lightest = weights.stream().mapToInt(w -> w).min().orElse(0);
        for (int n = 0; n < nights.size(); n++) {
            row.append(some(how, n) ? 'p' : '.');
            if (value(texts.get(rule).call, lightest, nights.get(n), hows.get(how).number, n) != 0) {
                called++;
                if (some(how, n)) both++;
            }
        }
        int many = (int) row.chars().filter(c -> c == 'p').count();
        if (what == 0) return many;
        if (what == 1) {
            int longest = 0;
            for (String part : row.toString().split("p")) longest = Math.max(longest, part.length());
            return longest;
        }
        if (what == 4) return called;
        if (what == 5) return both;
        if (many == 0) return what - 2;
        long common = BigInteger.valueOf(nights.size()).gcd(BigInteger.valueOf(many)).longValue();
        return (what == 2 ? nights.size() : many) / common;
    }

    private boolean canGo(int how, int stone, int night) {
        int way = hows.get(how).kind == 5 ? 1 : nights.get(night).way;
        return pushes(how, stone, night) > 0 && next(places, stone, way) >= 0;
    }

    long when(int how, int stone) {
        if (!in(how, hows.size()) || !in(stone, weights.size())) return NO;
        long bits = 0;
        for (int n = nights.size() - 1; n >= 0; n--) bits = 2 * bits + (canGo(how, stone, n) ? 1 : 0);
        return bits;
    }

    int cross(int over, int under) {
        if (!in(over, tracks.size()) || !in(under, tracks.size()) || over == under) return BAD;
        if (crosses.size() == 20) return FULL;
        crosses.add(new Pair(over, under));
        return crosses.size();
    }

    int order(int i) {
        if (!in(i, tracks.size())) return BAD;
        List<Integer> placed = new ArrayList<>();
        for (boolean more = true; more;) {
            more = false;
            for (int t = 0; t < tracks.size() && !more; t++) {
                int track = t;
                boolean over = crosses.stream().anyMatch(c -> c.over == track && !placed.contains(c.under));
                if (!placed.contains(t) && !over) {
                    placed.add(t);
                    more = true;
                }
            }
        }
        return i < placed.size() ? placed.get(i) : NONE;
    }

    int look(int coin, int what) {
        if (!in(coin, 100) || !in(what, 3)) return BAD;
        int size = Math.min(12, nights.size());
        int[] worths = new int[size];
        for (int n = 0; n < size; n++) {
            worths[n] = Math.max(0, Math.min(99, value(texts.get(rule).worth, 0, nights.get(n), 0, n)));
        }
        int bestBits = 0, bestWorth = 0, bestCoin = 0;
        for (int bits = 0; bits < 1 << size; bits++) {
            int worth = 0, cost = 0;
            for (int n = 0; n < size; n++) {
                if ((bits >> n & 1) == 1) {
                    worth += worths[n];
                    cost += 3 + nights.get(n).ice;
                }
            }
            if (cost <= coin && (worth > bestWorth || worth == bestWorth && cost < bestCoin)) {
                bestBits = bits;
                bestWorth = worth;
                bestCoin = cost;
            }
        }
        return what == 0 ? bestBits : what == 1 ? bestWorth : bestCoin;
    }

    int foretold(int how, int night) {
        if (!in(how, hows.size()) || !in(night, nights.size())) return BAD;
        int bits = 0;
        for (int s = 0; s < weights.size(); s++) if ((when(how, s) >> night & 1) == 1) bits |= 1 << s;
        return bits;
    }

    int held(int how, int night, int sheet) {
        if (!in(how, hows.size()) || !in(night, nights.size()) || !in(sheet, 4)) return BAD;
        if (sheets[sheet] == null) return -11;
        if (sheets[sheet].length != weights.size()) return BAD;
        int bits = foretold(how, night);
        for (int s = 0; s < weights.size(); s++) if (sheets[sheet][s] != (bits >> s & 1)) return s;
        return NONE;
    }

    int image() {
        image = new Object[] {new ArrayList<>(places), rule, new ArrayList<>(tracks), new ArrayList<>(crosses), new ArrayList<>(pegs)};
        return weights.size();
    }

    @SuppressWarnings("unchecked")
    int back() {
        if (image == null) return STATE;
        List<Integer> kept = (List<Integer>) image[0];
        for (int s = 0; s < kept.size(); s++) places.set(s, kept.get(s));
        rule = (Integer) image[1];
        tracks = new ArrayList<>((List<Track>) image[2]);
        crosses = new ArrayList<>((List<Pair>) image[3]);
        pegs = new ArrayList<>((List<Integer>) image[4]);
        return weights.size();
    }

    int count(int what) {
        int[] all = {weights.size(), nights.size(), hows.size(), tracks.size(), pegs.size(), crosses.size(), texts.size(),
            tape.length(), rule};
        return in(what, all.length) ? all[what] : BAD;
    }

    // ---- the host

    int sheet(int sheet, int sort, int n) {
        if (!in(sheet, 4) || sort < -1 || sort > 2) return BAD;
        if (sort == -1) {
            sheets[sheet] = null;
            return 1;
        }
        if (n > 40) return BAD;
        if (n < 0) return -14;
        sheets[sheet] = new int[n];
        sorts[sheet] = sort;
        return 1;
    }

    int cell(int sheet, int i, int v) {
        if (!in(sheet, 4)) return BAD;
        if (sheets[sheet] == null) return -11;
        if (!in(i, sheets[sheet].length)) return -12;
        int cut = sorts[sheet] == 0 ? 24 : sorts[sheet] == 1 ? 16 : 0;
        sheets[sheet][i] = v << cut >> cut;
        return 1;
    }

    int copy(int sheet, int i, int other, int j, int n) {
        if (!in(sheet, 4) || !in(other, 4)) return BAD;
        if (sheets[sheet] == null || sheets[other] == null) return -11;
        if (sorts[sheet] != sorts[other]) return -13;
        try {
            System.arraycopy(sheets[sheet], i, sheets[other], j, n);
        } catch (IndexOutOfBoundsException outside) {
            return -12;
        }
        return n;
    }

    int nights(int sheet, int sort, int from, int n) {
        if (!in(sheet, 4) || !in(sort, 3) || !in(n, 21)) return BAD;
        if (sheets[sheet] == null) return -11;
        if (sorts[sheet] != sort) return -13;
        int came = 0;
        for (long i = from; i < (long) from + n; i++) {
            if (i < 0 || i >= sheets[sheet].length) return -12;
            if (night(sheets[sheet][(int) i]) >= 0) came++;
        }
        return came;
    }

    int taken(int how, int k) {
        if (!in(k, 6)) return BAD;
        if (!in(how, hows.size())) return -11;
        int[][] over = {{0}, {1, 0}, {2, 1, 0}, {3, 2, 1, 0}, {4, 2, 1, 0}, {5, 0}};
        for (int kind : over[hows.get(how).kind]) if (kind == k) return hows.get(how).number;
        return -13;
    }
}
