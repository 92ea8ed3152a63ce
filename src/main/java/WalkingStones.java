/**
 * Stones that walk on a dry lake, night by night, by hows of kinds.
 * What each call promises stands in ../shared/DOC.md; the part of Java that is used, in ../shared/LANGUAGE.md.
 * All rows are made once, in the constructors: no call makes an object.
 */
public final class WalkingStones {
    public static final int NONE = -1, BAD = -2, STATE = -3, FULL = -4;
    public static final long NO = -4611686018427387904L;

    private static final int NO_SUCH_STONE = -5;
    private static final int MISSING = -11, OUTSIDE = -12, OTHER_SORT = -13, BELOW_ZERO = -14;
    private static final int FAULT_BASE = -100;

    private static final int SIDE = 64, PLACES = SIDE * SIDE;
    private static final int MOST_STONES = 10, MOST_NIGHTS = 60, MOST_HOWS = 8, MOST_WEIGHT = 99;
    private static final int MOST_WIND = 99, MOST_WET = 9, MOST_WAY = 3, MOST_NUMBER = 20;
    private static final int MOST_TRACKS = 24, MOST_LONG = 999, MOST_TURNS = 99, MOST_OFF = 99;
    private static final int MOST_CROSSES = 20, MOST_PEGS = 8, MOST_FAR = 63;
    private static final int ODDS_TRACKS = 16, BEST_FIT = 9, TURN_COST = 3;
    private static final int LOOK_NIGHTS = 12, LOOK_COST = 3, MOST_COIN = 99, MOST_WORTH = 99, MOST_ADD = 9;
    private static final int SHEETS = 4, MOST_CELLS = 40, BYTES = 0, SHORTS = 1, INTS = 2, MOST_COME = 20;

    private static final int HOW = 0, GUST = 1, RAFT = 2, WHOLE = 3, PANES = 4, SLOPE = 5;
    /** The kind that each kind is under. */
    private static final int[] ABOVE = {NONE, HOW, GUST, RAFT, RAFT, HOW};
    private static final int SLOPE_WAY = 1;
    /** What one square by each way adds to a place. */
    private static final int[] STRIDES = {1, SIDE, -1, -SIDE};

    private static final int MOST_TAPE = 160, MOST_TEXTS = 6, MOST_OPEN = 5, MOST_DIGITS = 4;
    private static final int PARTS = 3, ADD_PART = 0, CALL_PART = 1, WORTH_PART = 2;

    // A token, and a step of a text's code, is a number as it is (0 and more) or one of these, all below 0.
    private static final int T_WEIGHT = -1, T_WET = -2, T_ICE = -3, T_WIND = -4, T_NUMBER = -5, T_NIGHT = -6;
    private static final int T_OR = -7, T_AND = -8, T_NOT = -9, T_LESS = -10, T_LIKE = -11;
    private static final int T_PLUS = -12, T_MINUS = -13, T_TIMES = -14, T_NEGATE = -15;
    private static final int T_OPEN = -16, T_CLOSE = -17, T_SEMICOLON = -18;
    private static final int T_ADD = -19, T_CALL = -20, T_WORTH = -21, T_END = -22, T_WRONG = -23;
    private static final int NAMES = 6;

    /** What binds looser has the lower level. */
    private static final int L_OR = 0, L_AND = 1, L_NOT = 2, L_SUM = 3, L_TERM = 4, L_ONE = 5;
    /** At most five values wait at each of six levels of open signs. */
    private static final int STACK = 40;

    /** The code of TEXT 0: add 0 ; call 0 < ice ; worth wind ; */
    private static final int[] FIRST_CODE = {0, 0, T_ICE, T_LESS, T_WIND};
    private static final int[] FIRST_ENDS = {1, 4, 5};
    /** The keys that the parts of a text begin with. */
    private static final int[] PART_KEYS = {T_ADD, T_CALL, T_WORTH};

    private final Stones stones;
    private final Nights nights;
    private final Hows hows;
    private final Texts texts;
    private final Reader reader;
    private final Pushes pushes;
    private final Walk walk;
    private final Tracks tracks;
    private final Pegs pegs;
    private final Looks looks;
    private final Sheets sheets;
    private boolean hasImage;

    public WalkingStones() {
        stones = new Stones();
        nights = new Nights();
        hows = new Hows();
        texts = new Texts();
        reader = new Reader();
        pushes = new Pushes(stones, nights, hows, texts);
        walk = new Walk(stones, nights, hows, pushes);
        tracks = new Tracks();
        pegs = new Pegs();
        looks = new Looks(nights, pushes);
        sheets = new Sheets();
        hasImage = false;
    }

    // ---- stones, nights, hows

    public int stone(int weight, int place) {
        if (weight < 1 || weight > MOST_WEIGHT || !isPlace(place)) {
            return BAD;
        }
        if (stones.someAt(place)) {
            return STATE;
        }
        return stones.put(weight, place);
    }

    public int night(int weather) {
        return nights.come(weather);
    }

    public int how(int kind, int number) {
        if (!isKind(kind) || number < 0 || number > MOST_NUMBER) {
            return BAD;
        }
        return hows.put(kind, number);
    }

    public int stoneTold(int stone, int what) {
        if (!stones.has(stone) || what < 0 || what > 1) {
            return NO_SUCH_STONE;
        }
        return what == 0 ? stones.weights[stone] : stones.places[stone];
    }

    public int told(int how, int stone, int night, int what) {
        if (!hows.has(how) || !stones.has(stone) || !nights.has(night)) {
            return BAD;
        }
        switch (what) {
            case 0:
                return bit(hows.may(how, nights.wets[night], nights.ices[night]));
            case 1:
                return hows.drag(how, stones.weights[stone]);
            case 2:
                return pushes.squares(how, stone, night, nights.winds[night]);
            default:
                return BAD;
        }
    }

    public int needs(int how, int stone, int night) {
        if (!hows.has(how) || !stones.has(stone) || !nights.has(night)) {
            return BAD;
        }
        for (int wind = 0; wind <= MOST_WIND; wind++) {
            if (pushes.squares(how, stone, night, wind) > 0) {
                return wind;
            }
        }
        return NONE;
    }

    // ---- texts

    public int feed(int n, long bytes) {
        if (n < 1 || n > 8) {
            return BAD;
        }
        return reader.append(n, bytes);
    }

    public int text() {
        if (texts.size >= MOST_TEXTS) {
            return FULL;
        }
        int fault = reader.readTape();
        if (fault != NONE) {
            return FAULT_BASE - fault;
        }
        return texts.keep(reader.code, reader.ends);
    }

    public int force(int text) {
        if (text < 0 || text >= texts.size) {
            return BAD;
        }
        int was = texts.rule;
        texts.rule = text;
        return was;
    }

    // ---- runs, tracks

    public int run(int how, int nights, int stone, int what) {
        if (!hows.has(how) || !this.nights.hasSpan(nights) || !stones.has(stone)) {
            return BAD;
        }
        if (what < 0 || what > 2) {
            return BAD;
        }
        walk.go(how, nights / 100, nights % 100);
        if (what == 0) {
            return walk.went[stone];
        }
        return what == 1 ? walk.at[stone] : walk.turns[stone];
    }

    public int lay(int how, int nights) {
        if (!hows.has(how) || !this.nights.hasSpan(nights)) {
            return BAD;
        }
        walk.go(how, nights / 100, nights % 100);
        int all = 0;
        for (int stone = 0; stone < stones.size; stone++) {
            stones.places[stone] = walk.at[stone];
            all += walk.went[stone];
        }
        return all;
    }

    public int track(int stone, int length, int turns) {
        if (!stones.has(stone) || length < 0 || length > MOST_LONG || turns < 0 || turns > MOST_TURNS) {
            return BAD;
        }
        return tracks.put(stone, length, turns);
    }

    public int together(int a, int b, int off) {
        if (!tracks.has(a) || !tracks.has(b) || a == b || !isOff(off)) {
            return BAD;
        }
        return bit(tracks.wentTogether(a, b, off));
    }

    public int groups(int off) {
        if (!isOff(off)) {
            return BAD;
        }
        return tracks.groupsBy(off);
    }

    public int fits(int track, int how) {
        if (!tracks.has(track) || !hows.has(how)) {
            return BAD;
        }
        walk.go(how, 0, nights.size - 1);
        return fitOfWalk(track);
    }

    public long odds(int how, int tracks, int part) {
        if (!hows.has(how) || !this.tracks.hasAll(tracks) || part < 0 || part > 1) {
            return NO;
        }
        long above = 0;
        long below = 0;
        for (int each = 0; each < hows.size; each++) {
            walk.go(each, 0, nights.size - 1);
            long product = productOfFits(tracks);
            below += product;
            if (each == how) {
                above = product;
            }
        }
        return partOfFraction(above, below, part);
    }

    // ---- pegs, nights

    public int peg(int place) {
        if (!isPlace(place)) {
            return BAD;
        }
        return pegs.put(place);
    }

    public int holds(int stone, int far) {
        if (!stones.has(stone) || !isFar(far)) {
            return BAD;
        }
        return bit(pegs.hold(stones.places[stone], far));
    }

    public int bars(int how, int far) {
        if (!hows.has(how) || !isFar(far)) {
            return BAD;
        }
        walk.go(how, 0, nights.size - 1);
        int barred = 0;
        for (int stone = 0; stone < stones.size; stone++) {
            if (pegs.hold(stones.places[stone], far) && pegs.isBeyond(walk.at[stone])) {
                barred++;
            }
        }
        return barred;
    }

    public long seldom(int how, int what) {
        if (!hows.has(how)) {
            return NO;
        }
        switch (what) {
            case 0:
                return pushes.nightsPushing(how);
            case 1:
                return pushes.longestRowWithout(how);
            case 2:
            case 3:
                return partOfWait(pushes.nightsPushing(how), what - 2);
            case 4:
                return pushes.nightsCalled(how, false);
            case 5:
                return pushes.nightsCalled(how, true);
            default:
                return NO;
        }
    }

    public long when(int how, int stone) {
        if (!hows.has(how) || !stones.has(stone)) {
            return NO;
        }
        long bits = 0;
        for (int night = 0; night < nights.size; night++) {
            if (walk.canGo(how, stone, night)) {
                bits |= 1L << night;
            }
        }
        return bits;
    }

    public int cross(int over, int under) {
        if (!tracks.has(over) || !tracks.has(under) || over == under) {
            return BAD;
        }
        return tracks.putCross(over, under);
    }

    public int order(int i) {
        if (!tracks.has(i)) {
            return BAD;
        }
        return tracks.inOrder(i);
    }

    public int look(int coin, int what) {
        if (coin < 0 || coin > MOST_COIN || what < 0 || what > 2) {
            return BAD;
        }
        int spent = looks.bestCoin(coin);
        if (what == 0) {
            return looks.bits[spent];
        }
        return what == 1 ? looks.worths[spent] : spent;
    }

    public int foretold(int how, int night) {
        if (!hows.has(how) || !nights.has(night)) {
            return BAD;
        }
        int bits = 0;
        for (int stone = 0; stone < stones.size; stone++) {
            if (walk.canGo(how, stone, night)) {
                bits |= 1 << stone;
            }
        }
        return bits;
    }

    public int held(int how, int night, int sheet) {
        if (!hows.has(how) || !nights.has(night) || !isSheet(sheet)) {
            return BAD;
        }
        if (sheets.isMissing(sheet)) {
            return MISSING;
        }
        if (sheets.sizes[sheet] != stones.size) {
            return BAD;
        }
        for (int stone = 0; stone < stones.size; stone++) {
            if (sheets.item(sheet, stone) != bit(walk.canGo(how, stone, night))) {
                return stone;
            }
        }
        return NONE;
    }

    public int image() {
        stones.keepPlaces();
        texts.keptRule = texts.rule;
        tracks.keepSizes();
        pegs.keptSize = pegs.size;
        hasImage = true;
        return stones.size;
    }

    public int back() {
        if (!hasImage) {
            return STATE;
        }
        stones.layBack();
        texts.rule = texts.keptRule;
        tracks.cutBack();
        pegs.size = pegs.keptSize;
        return stones.size;
    }

    public int count(int what) {
        switch (what) {
            case 0:
                return stones.size;
            case 1:
                return nights.size;
            case 2:
                return hows.size;
            case 3:
                return tracks.size;
            case 4:
                return pegs.size;
            case 5:
                return tracks.crosses;
            case 6:
                return texts.size;
            case 7:
                return reader.size;
            case 8:
                return texts.rule;
            default:
                return BAD;
        }
    }

    // ---- the host

    public int sheet(int sheet, int sort, int n) {
        if (!isSheet(sheet) || (sort != NONE && !isSort(sort))) {
            return BAD;
        }
        if (sort == NONE) {
            sheets.drop(sheet);
            return 1;
        }
        if (n > MOST_CELLS) {
            return BAD;
        }
        if (n < 0) {
            return BELOW_ZERO;
        }
        sheets.renew(sheet, sort, n);
        return 1;
    }

    public int cell(int sheet, int i, int v) {
        if (!isSheet(sheet)) {
            return BAD;
        }
        if (sheets.isMissing(sheet)) {
            return MISSING;
        }
        if (!sheets.hasItem(sheet, i)) {
            return OUTSIDE;
        }
        sheets.write(sheet, i, v);
        return 1;
    }

    public int copy(int sheet, int i, int other, int j, int n) {
        if (!isSheet(sheet) || !isSheet(other)) {
            return BAD;
        }
        if (sheets.isMissing(sheet) || sheets.isMissing(other)) {
            return MISSING;
        }
        if (sheets.sorts[sheet] != sheets.sorts[other]) {
            return OTHER_SORT;
        }
        if (!sheets.hasRow(sheet, i, n) || !sheets.hasRow(other, j, n)) {
            return OUTSIDE;
        }
        sheets.copyRow(sheet, i, other, j, n);
        return n;
    }

    public int nights(int sheet, int sort, int from, int n) {
        if (!isSheet(sheet) || !isSort(sort) || n < 0 || n > MOST_COME) {
            return BAD;
        }
        if (!sheets.isMissing(sheet) && sheets.sorts[sheet] != sort) {
            return OTHER_SORT;
        }
        if (sheets.isMissing(sheet)) {
            return MISSING;
        }
        int came = 0;
        for (int k = 0; k < n; k++) {
            if (!sheets.hasItem(sheet, from + k)) {
                return OUTSIDE;
            }
            if (nights.come(sheets.item(sheet, from + k)) >= 0) {
                came++;
            }
        }
        return came;
    }

    public int taken(int how, int k) {
        if (!isKind(k)) {
            return BAD;
        }
        if (!hows.has(how)) {
            return MISSING;
        }
        return isUnder(hows.kinds[how], k) ? hows.numbers[how] : OTHER_SORT;
    }

    // ---- helpers of the calls

    private static int bit(boolean so) {
        return so ? 1 : 0;
    }

    private static int within(int value, int least, int most) {
        return Math.max(least, Math.min(most, value));
    }

    private static boolean isPlace(int place) {
        return place >= 0 && place < PLACES;
    }

    private static boolean isKind(int kind) {
        return kind >= HOW && kind <= SLOPE;
    }

    private static boolean isOff(int off) {
        return off >= 0 && off <= MOST_OFF;
    }

    private static boolean isFar(int far) {
        return far >= 0 && far <= MOST_FAR;
    }

    private static boolean isSheet(int sheet) {
        return sheet >= 0 && sheet < SHEETS;
    }

    private static boolean isSort(int sort) {
        return sort >= BYTES && sort <= INTS;
    }

    /** Whether a kind is another one or under it, also by others between. */
    private static boolean isUnder(int kind, int other) {
        int at = kind;
        for (int k = 0; k < ABOVE.length && isKind(at); k++) {
            if (at == other) {
                return true;
            }
            at = ABOVE[at];
        }
        return false;
    }

    /** What a track fits the how that the walk has just gone by. */
    private int fitOfWalk(int track) {
        int stone = tracks.ofStones[track];
        int lengthOff = Math.abs(tracks.lengths[track] - walk.went[stone]);
        int turnsOff = Math.abs(tracks.turns[track] - walk.turns[stone]);
        return Math.max(1, BEST_FIT - lengthOff - TURN_COST * turnsOff);
    }

    /** At most 9 to the 16th, so that eight of them together stay far within a long. */
    private long productOfFits(int bits) {
        long product = 1;
        for (int track = 0; track < ODDS_TRACKS; track++) {
            if ((bits >> track & 1) == 1) {
                product *= fitOfWalk(track);
            }
        }
        return product;
    }

    private long partOfWait(int pushing, int part) {
        if (pushing == 0) {
            return part;
        }
        return partOfFraction(nights.size, pushing, part);
    }

    /** Part 0 above, 1 below the line, in lowest terms. */
    private static long partOfFraction(long above, long below, int part) {
        long divisor = commonDivisor(above, below);
        long asked = part == 0 ? above : below;
        return divisor == 0 ? asked : asked / divisor;
    }

    private static long commonDivisor(long a, long b) {
        long larger = a;
        long rest = b;
        // Two steps halve the larger one, so a long needs fewer than this.
        for (int k = 0; k < 130 && rest != 0; k++) {
            long next = larger % rest;
            larger = rest;
            rest = next;
        }
        return larger;
    }

    /** The stones: weights, and places where they lie. */
    private static final class Stones {
        final int[] weights = new int[MOST_STONES];
        final int[] places = new int[MOST_STONES];
        final int[] keptPlaces = new int[MOST_STONES];
        int size;
        int keptSize;

        boolean has(int stone) {
            return stone >= 0 && stone < size;
        }

        boolean someAt(int place) {
            for (int stone = 0; stone < size; stone++) {
                if (places[stone] == place) {
                    return true;
                }
            }
            return false;
        }

        int put(int weight, int place) {
            if (size >= MOST_STONES) {
                return FULL;
            }
            weights[size] = weight;
            places[size] = place;
            size++;
            return size - 1;
        }

        /** The weight of the lightest stone; 0 without any. */
        int lightest() {
            int least = size > 0 ? weights[0] : 0;
            for (int stone = 1; stone < size; stone++) {
                least = Math.min(least, weights[stone]);
            }
            return least;
        }

        void keepPlaces() {
            System.arraycopy(places, 0, keptPlaces, 0, size);
            keptSize = size;
        }

        void layBack() {
            System.arraycopy(keptPlaces, 0, places, 0, keptSize);
        }

        /** How many squares ahead of a stone are on the lake and free, if the stones lie as told. */
        int roomAhead(int[] at, int stone, int way) {
            boolean more = way < 2;
            int along = coordinate(at[stone], way);
            int across = coordinate(at[stone], way + 1);
            int room = more ? SIDE - 1 - along : along;
            for (int other = 0; other < size; other++) {
                if (coordinate(at[other], way + 1) == across) {
                    int ahead = coordinate(at[other], way) - along;
                    if (!more) {
                        ahead = -ahead;
                    }
                    // A stone at the very same place (after back) is not in the way.
                    if (ahead > 0 && ahead <= room) {
                        room = ahead - 1;
                    }
                }
            }
            return room;
        }

        /** The x of a place for an even way, its y for an odd one. */
        private static int coordinate(int place, int way) {
            return (way & 1) == 0 ? place % SIDE : place / SIDE;
        }
    }

    /** The nights: wet, ice, wind, way. */
    private static final class Nights {
        final int[] wets = new int[MOST_NIGHTS];
        final int[] ices = new int[MOST_NIGHTS];
        final int[] winds = new int[MOST_NIGHTS];
        final int[] ways = new int[MOST_NIGHTS];
        int size;

        boolean has(int night) {
            return night >= 0 && night < size;
        }

        /** Whether 100 times a night and another one, not ahead of it, are told. */
        boolean hasSpan(int span) {
            return span >= 0 && has(span / 100) && has(span % 100) && span / 100 <= span % 100;
        }

        int come(int weather) {
            if (weather < 0 || weather / 10000 > MOST_WET || weather % 10 > MOST_WAY) {
                return BAD;
            }
            if (size >= MOST_NIGHTS) {
                return FULL;
            }
            wets[size] = weather / 10000;
            ices[size] = weather / 1000 % 10;
            winds[size] = weather / 10 % 100;
            ways[size] = weather % 10;
            size++;
            return size - 1;
        }
    }

    /** The hows: kinds, numbers, and what each kind does without the rule. */
    private static final class Hows {
        final int[] kinds = new int[MOST_HOWS];
        final int[] numbers = new int[MOST_HOWS];
        int size;

        boolean has(int how) {
            return how >= 0 && how < size;
        }

        int put(int kind, int number) {
            if (size >= MOST_HOWS) {
                return FULL;
            }
            kinds[size] = kind;
            numbers[size] = number;
            size++;
            return size - 1;
        }

        boolean may(int how, int wet, int ice) {
            if (wet == 0) {
                return false;
            }
            switch (kinds[how]) {
                case RAFT:
                    return ice > 2;
                case WHOLE:
                    return ice > 5;
                case PANES:
                    return ice >= 1 && ice <= 4;
                default:
                    return true;
            }
        }

        int drag(int how, int weight) {
            int ofHow = 2 * weight;
            int ofGust = ofHow + numbers[how];
            int ofRaft = ofGust / 4;
            switch (kinds[how]) {
                case GUST:
                    return ofGust;
                case RAFT:
                    return ofRaft;
                case WHOLE:
                    return numbers[how];
                case PANES:
                    return ofRaft / 2;
                case SLOPE:
                    return 0;
                default:
                    return ofHow;
            }
        }

        /** How far a how that may go pushes a stone by a wind, without the rule's add. */
        int barePush(int how, int weight, int wind) {
            if (kinds[how] == SLOPE) {
                return bit(numbers[how] > weight / 5);
            }
            int squares = Math.max(0, (wind - drag(how, weight)) / 10);
            if (kinds[how] == WHOLE) {
                return Math.min(9, squares);
            }
            if (kinds[how] == PANES && squares > 0) {
                return squares + 1;
            }
            return squares;
        }

        int wayOf(int how, int nightsWay) {
            return kinds[how] == SLOPE ? SLOPE_WAY : nightsWay;
        }
    }

    /** The texts as code, each step behind what it works on, and the rule among them. */
    private static final class Texts {
        final int[] codes = new int[MOST_TEXTS * MOST_TAPE];
        final int[] ends = new int[MOST_TEXTS * PARTS];
        final int[] facts = new int[NAMES];
        private final int[] stack = new int[STACK];
        int size;
        int rule;
        int keptRule;

        Texts() {
            keep(FIRST_CODE, FIRST_ENDS);
        }

        /** Keeps a text's code, whose parts end as told; each step of it came from a byte, so it has room. */
        int keep(int[] code, int[] partEnds) {
            if (size >= MOST_TEXTS || partEnds.length < PARTS) {
                return FULL;
            }
            int steps = within(partEnds[PARTS - 1], 0, Math.min(code.length, MOST_TAPE));
            System.arraycopy(code, 0, codes, size * MOST_TAPE, steps);
            System.arraycopy(partEnds, 0, ends, size * PARTS, PARTS);
            size++;
            return size - 1;
        }

        void tellStone(int weight, int number) {
            facts[-1 - T_WEIGHT] = weight;
            facts[-1 - T_NUMBER] = number;
        }

        void tellNight(int night, int wet, int ice, int wind) {
            facts[-1 - T_NIGHT] = night;
            facts[-1 - T_WET] = wet;
            facts[-1 - T_ICE] = ice;
            facts[-1 - T_WIND] = wind;
        }

        /** The value of a part of the rule, by the facts that were told. */
        int value(int part) {
            int from = part == ADD_PART ? 0 : ends[rule * PARTS + part - 1];
            int to = Math.min(MOST_TAPE, ends[rule * PARTS + part]);
            int top = 0;
            for (int i = from; i < to; i++) {
                top = work(codes[rule * MOST_TAPE + i], top);
            }
            return top > 0 ? stack[0] : 0;
        }

        /** Does a step on the stack of so many values: how many it has then. */
        private int work(int step, int top) {
            if (step >= -NAMES) {
                if (top >= STACK) {
                    return top;
                }
                stack[top] = step >= 0 ? step : facts[-1 - step];
                return top + 1;
            }
            if (step == T_NOT || step == T_NEGATE) {
                if (top >= 1) {
                    stack[top - 1] = step == T_NOT ? bit(stack[top - 1] == 0) : -stack[top - 1];
                }
                return top;
            }
            if (top < 2) {
                return top;
            }
            stack[top - 2] = joined(step, stack[top - 2], stack[top - 1]);
            return top - 1;
        }

        private static int joined(int step, int left, int right) {
            switch (step) {
                case T_OR:
                    return (left != 0 || right != 0) ? 1 : 0;
                case T_AND:
                    return (left != 0 && right != 0) ? 1 : 0;
                case T_LESS:
                    return left < right ? 1 : 0;
                case T_LIKE:
                    return left == right ? 1 : 0;
                case T_PLUS:
                    return left + right;
                case T_MINUS:
                    return left - right;
                case T_TIMES:
                    return left * right;
                default:
                    return 0;
            }
        }
    }

    /** The tape, and how it is read: cut into tokens first, then by levels into code. */
    private static final class Reader {
        final int[] code = new int[MOST_TAPE];
        final int[] ends = new int[PARTS];
        private final int[] tape = new int[MOST_TAPE];
        private final int[] tokens = new int[MOST_TAPE + 1];
        private final int[] starts = new int[MOST_TAPE + 1];
        int size;
        private int steps;
        private int now;

        int append(int n, long bytes) {
            if (size + n > MOST_TAPE) {
                return FULL;
            }
            for (int k = 0; k < n; k++) {
                tape[size + k] = (int) (bytes >> 8 * k) & 255;
            }
            size += n;
            return size;
        }

        /** Reads the tape, which is empty then, into code and ends: the place of its fault, or NONE. */
        int readTape() {
            cut();
            size = 0;
            steps = 0;
            now = 0;
            return readText() ? NONE : starts[now];
        }

        private boolean readText() {
            for (int part = 0; part < PARTS; part++) {
                if (tokens[now] != PART_KEYS[part]) {
                    return false;
                }
                advance();
                if (!read(L_OR, 0)) {
                    return false;
                }
                if (tokens[now] != T_SEMICOLON) {
                    return false;
                }
                advance();
                ends[part] = steps;
            }
            return tokens[now] == T_END;
        }

        /** Reads what binds no looser than a level, inside so many open signs; false: the token now can't stand. */
        private boolean read(int level, int open) {
            if (level >= L_ONE) {
                return readOne(open);
            }
            if (level == L_NOT && tokens[now] == T_NOT) {
                return readBehind(L_NOT, open) && put(T_NOT);
            }
            if (!read(level + 1, open)) {
                return false;
            }
            // A comparison stands once at most, every other sign as often as it comes.
            int most = level == L_NOT ? 1 : MOST_TAPE;
            for (int k = 0; k < most && levelOf(tokens[now]) == level; k++) {
                int sign = tokens[now];
                advance();
                if (!read(level + 1, open)) {
                    return false;
                }
                put(sign);
            }
            return true;
        }

        private boolean readOne(int open) {
            int token = tokens[now];
            if (token >= -NAMES) {
                advance();
                return put(token);
            }
            if (token == T_MINUS) {
                return readBehind(L_ONE, open) && put(T_NEGATE);
            }
            if (token != T_OPEN || !readBehind(L_OR, open) || tokens[now] != T_CLOSE) {
                return false;
            }
            advance();
            return true;
        }

        /** Reads what stands behind a sign that opens one more. */
        private boolean readBehind(int level, int open) {
            if (open >= MOST_OPEN) {
                return false;
            }
            advance();
            return read(level, open + 1);
        }

        private static int levelOf(int token) {
            switch (token) {
                case T_OR:
                    return L_OR;
                case T_AND:
                    return L_AND;
                case T_LESS:
                case T_LIKE:
                    return L_NOT;
                case T_PLUS:
                case T_MINUS:
                    return L_SUM;
                case T_TIMES:
                    return L_TERM;
                default:
                    return NONE;
            }
        }

        private void advance() {
            if (now < MOST_TAPE && tokens[now] != T_END) {
                now++;
            }
        }

        private boolean put(int step) {
            if (steps >= MOST_TAPE) {
                return false;
            }
            code[steps] = step;
            steps++;
            return true;
        }

        /** Cuts the tape into tokens, each as long as can be, and one for its end. */
        private void cut() {
            int many = 0;
            int place = 0;
            for (int k = 0; k < MOST_TAPE && place < size; k++) {
                if (isBlank(tape[place])) {
                    place++;
                } else {
                    int end = endOfToken(place);
                    tokens[many] = tokenOf(place, end);
                    starts[many] = place;
                    many++;
                    place = end;
                }
            }
            tokens[many] = T_END;
            starts[many] = size;
        }

        private int endOfToken(int place) {
            boolean letters = isLetter(tape[place]);
            if (!letters && !isDigit(tape[place])) {
                return place + 1;
            }
            int end = place + 1;
            while (end < size && (letters ? isLetter(tape[end]) : isDigit(tape[end]))) {
                end++;
            }
            return end;
        }

        private int tokenOf(int place, int end) {
            if (isLetter(tape[place])) {
                return wordOf(place, end);
            }
            if (isDigit(tape[place])) {
                return numberOf(place, end);
            }
            return signOf(tape[place]);
        }

        private int numberOf(int place, int end) {
            if (end - place > MOST_DIGITS) {
                return T_WRONG;
            }
            int value = 0;
            for (int i = place; i < end; i++) {
                value = 10 * value + tape[i] - '0';
            }
            return value;
        }

        private int wordOf(int place, int end) {
            if (spells("add", place, end)) {
                return T_ADD;
            }
            if (spells("call", place, end)) {
                return T_CALL;
            }
            if (spells("worth", place, end)) {
                return T_WORTH;
            }
            if (spells("or", place, end)) {
                return T_OR;
            }
            if (spells("and", place, end)) {
                return T_AND;
            }
            if (spells("not", place, end)) {
                return T_NOT;
            }
            if (spells("weight", place, end)) {
                return T_WEIGHT;
            }
            if (spells("wet", place, end)) {
                return T_WET;
            }
            if (spells("ice", place, end)) {
                return T_ICE;
            }
            if (spells("wind", place, end)) {
                return T_WIND;
            }
            if (spells("number", place, end)) {
                return T_NUMBER;
            }
            return spells("night", place, end) ? T_NIGHT : T_WRONG;
        }

        private boolean spells(String word, int place, int end) {
            if (end - place != word.length()) {
                return false;
            }
            for (int i = 0; i < word.length(); i++) {
                if (tape[place + i] != word.charAt(i)) {
                    return false;
                }
            }
            return true;
        }

        private static int signOf(int sign) {
            switch (sign) {
                case '(':
                    return T_OPEN;
                case ')':
                    return T_CLOSE;
                case ';':
                    return T_SEMICOLON;
                case '+':
                    return T_PLUS;
                case '-':
                    return T_MINUS;
                case '*':
                    return T_TIMES;
                case '<':
                    return T_LESS;
                case '=':
                    return T_LIKE;
                default:
                    return T_WRONG;
            }
        }

        private static boolean isBlank(int sign) {
            return sign == 32 || sign == 10;
        }

        private static boolean isLetter(int sign) {
            return sign >= 'a' && sign <= 'z';
        }

        private static boolean isDigit(int sign) {
            return sign >= '0' && sign <= '9';
        }
    }

    /** How far hows push stones on nights by the rule, and what else the rule says of nights. */
    private static final class Pushes {
        private final Stones stones;
        private final Nights nights;
        private final Hows hows;
        private final Texts texts;

        Pushes(Stones stones, Nights nights, Hows hows, Texts texts) {
            this.stones = stones;
            this.nights = nights;
            this.hows = hows;
            this.texts = texts;
        }

        /** How far a how pushes a stone on a night, if its wind were as told. */
        int squares(int how, int stone, int night, int wind) {
            if (!hows.may(how, nights.wets[night], nights.ices[night])) {
                return 0;
            }
            int weight = stones.weights[stone];
            int bare = hows.barePush(how, weight, wind);
            if (bare == 0) {
                return 0;
            }
            texts.tellStone(weight, hows.numbers[how]);
            texts.tellNight(night, nights.wets[night], nights.ices[night], wind);
            return Math.max(0, bare + within(texts.value(ADD_PART), -MOST_ADD, MOST_ADD));
        }

        boolean pushesSome(int how, int night) {
            for (int stone = 0; stone < stones.size; stone++) {
                if (squares(how, stone, night, nights.winds[night]) > 0) {
                    return true;
                }
            }
            return false;
        }

        int nightsPushing(int how) {
            int many = 0;
            for (int night = 0; night < nights.size; night++) {
                many += bit(pushesSome(how, night));
            }
            return many;
        }

        int longestRowWithout(int how) {
            int longest = 0;
            int row = 0;
            for (int night = 0; night < nights.size; night++) {
                row = pushesSome(how, night) ? 0 : row + 1;
                longest = Math.max(longest, row);
            }
            return longest;
        }

        /** How many nights are called, or how many of these on which some stone is pushed. */
        int nightsCalled(int how, boolean pushing) {
            int lightest = stones.lightest();
            int many = 0;
            for (int night = 0; night < nights.size; night++) {
                texts.tellStone(lightest, hows.numbers[how]);
                tellNightAsIs(night);
                if (texts.value(CALL_PART) != 0 && (!pushing || pushesSome(how, night))) {
                    many++;
                }
            }
            return many;
        }

        int worthOfLook(int night) {
            texts.tellStone(0, 0);
            tellNightAsIs(night);
            return within(texts.value(WORTH_PART), 0, MOST_WORTH);
        }

        private void tellNightAsIs(int night) {
            texts.tellNight(night, nights.wets[night], nights.ices[night], nights.winds[night]);
        }
    }

    /** A run, on places of its own: where stones lie is not changed by it. */
    private static final class Walk {
        final int[] at = new int[MOST_STONES];
        final int[] went = new int[MOST_STONES];
        final int[] turns = new int[MOST_STONES];
        private final int[] lastWays = new int[MOST_STONES];
        private final Stones stones;
        private final Nights nights;
        private final Hows hows;
        private final Pushes pushes;

        Walk(Stones stones, Nights nights, Hows hows, Pushes pushes) {
            this.stones = stones;
            this.nights = nights;
            this.hows = hows;
            this.pushes = pushes;
        }

        /** Runs from a night to another one; of no nights, if that is ahead of it. */
        void go(int how, int from, int to) {
            for (int stone = 0; stone < stones.size; stone++) {
                at[stone] = stones.places[stone];
                went[stone] = 0;
                turns[stone] = 0;
                lastWays[stone] = NONE;
            }
            for (int night = from; night <= to; night++) {
                for (int stone = 0; stone < stones.size; stone++) {
                    goOneNight(how, stone, night);
                }
            }
        }

        private void goOneNight(int how, int stone, int night) {
            int wished = pushes.squares(how, stone, night, nights.winds[night]);
            if (wished == 0) {
                return;
            }
            int way = hows.wayOf(how, nights.ways[night]);
            int gone = Math.min(wished, stones.roomAhead(at, stone, way));
            if (gone == 0) {
                return;
            }
            at[stone] += gone * STRIDES[way];
            went[stone] += gone;
            if (lastWays[stone] != NONE && lastWays[stone] != way) {
                turns[stone]++;
            }
            lastWays[stone] = way;
        }

        /** Whether a stone is pushed on a night and can go a square, as all lie now. */
        boolean canGo(int how, int stone, int night) {
            if (pushes.squares(how, stone, night, nights.winds[night]) == 0) {
                return false;
            }
            return stones.roomAhead(stones.places, stone, hows.wayOf(how, nights.ways[night])) > 0;
        }
    }

    /** The tracks that were found, and which lie over which. */
    private static final class Tracks {
        final int[] ofStones = new int[MOST_TRACKS];
        final int[] lengths = new int[MOST_TRACKS];
        final int[] turns = new int[MOST_TRACKS];
        private final int[] overs = new int[MOST_CROSSES];
        private final int[] unders = new int[MOST_CROSSES];
        private final int[] groups = new int[MOST_TRACKS];
        private final boolean[] placed = new boolean[MOST_TRACKS];
        int size;
        int crosses;
        private int keptSize;
        private int keptCrosses;

        boolean has(int track) {
            return track >= 0 && track < size;
        }

        /** Whether there are tracks for all bits, each among the first 16. */
        boolean hasAll(int bits) {
            return bits >= 0 && bits < 1 << Math.min(size, ODDS_TRACKS);
        }

        int put(int stone, int length, int turnsOfIt) {
            if (size >= MOST_TRACKS) {
                return FULL;
            }
            ofStones[size] = stone;
            lengths[size] = length;
            turns[size] = turnsOfIt;
            size++;
            return size - 1;
        }

        int putCross(int over, int under) {
            if (crosses >= MOST_CROSSES) {
                return FULL;
            }
            overs[crosses] = over;
            unders[crosses] = under;
            crosses++;
            return crosses;
        }

        void keepSizes() {
            keptSize = size;
            keptCrosses = crosses;
        }

        /** Tracks and crosses only ever come behind the others, so their numbers are all that an image needs. */
        void cutBack() {
            size = keptSize;
            crosses = keptCrosses;
        }

        boolean wentTogether(int a, int b, int off) {
            return turns[a] == turns[b] && Math.abs(lengths[a] - lengths[b]) <= off;
        }

        /** Each track begins as a group of its own; two groups become one where tracks went together. */
        int groupsBy(int off) {
            int many = size;
            for (int track = 0; track < size; track++) {
                groups[track] = track;
                for (int other = 0; other < track; other++) {
                    if (groups[other] != groups[track] && wentTogether(track, other, off)) {
                        regroup(groups[other], groups[track], track);
                        many--;
                    }
                }
            }
            return many;
        }

        private void regroup(int from, int to, int last) {
            for (int track = 0; track <= last; track++) {
                if (groups[track] == from) {
                    groups[track] = to;
                }
            }
        }

        /** The track at a place of the order; NONE, if none is left there or ahead. */
        int inOrder(int place) {
            for (int track = 0; track < size; track++) {
                placed[track] = false;
            }
            int next = NONE;
            for (int k = 0; k <= place; k++) {
                next = leastFree();
                if (next == NONE) {
                    return NONE;
                }
                placed[next] = true;
            }
            return next;
        }

        private int leastFree() {
            for (int track = 0; track < size; track++) {
                if (!placed[track] && !liesOverUnplaced(track)) {
                    return track;
                }
            }
            return NONE;
        }

        private boolean liesOverUnplaced(int track) {
            for (int k = 0; k < crosses; k++) {
                if (overs[k] == track && !placed[unders[k]]) {
                    return true;
                }
            }
            return false;
        }
    }

    /** The rings of pegs. */
    private static final class Pegs {
        private final int[] xs = new int[MOST_PEGS];
        private final int[] ys = new int[MOST_PEGS];
        int size;
        int keptSize;

        int put(int place) {
            if (size >= MOST_PEGS) {
                return FULL;
            }
            xs[size] = place % SIDE;
            ys[size] = place / SIDE;
            size++;
            return size;
        }

        /** Whether pegs stand near enough on all four sides of a place. */
        boolean hold(int place, int far) {
            return onBothSides(xs, place % SIDE, far) && onBothSides(ys, place / SIDE, far);
        }

        private boolean onBothSides(int[] row, int middle, int far) {
            boolean less = false;
            boolean more = false;
            for (int peg = 0; peg < size; peg++) {
                int off = row[peg] - middle;
                less = less || (off < 0 && -off <= far);
                more = more || (off > 0 && off <= far);
            }
            return less && more;
        }

        /** Whether a place is less than the least or more than the greatest peg by x or by y. */
        boolean isBeyond(int place) {
            return isBeyondRow(xs, place % SIDE) || isBeyondRow(ys, place / SIDE);
        }

        private boolean isBeyondRow(int[] row, int value) {
            boolean belowAll = true;
            boolean aboveAll = true;
            for (int peg = 0; peg < size; peg++) {
                belowAll = belowAll && value < row[peg];
                aboveAll = aboveAll && value > row[peg];
            }
            return belowAll || aboveAll;
        }
    }

    /** Which nights to look at: for each sum of coin the best set that costs just that. */
    private static final class Looks {
        final int[] worths = new int[MOST_COIN + 1];
        final int[] bits = new int[MOST_COIN + 1];
        private final Nights nights;
        private final Pushes pushes;

        Looks(Nights nights, Pushes pushes) {
            this.nights = nights;
            this.pushes = pushes;
        }

        /** Fills the rows, and tells what the best set within so much coin costs. */
        int bestCoin(int coin) {
            for (int sum = 0; sum <= MOST_COIN; sum++) {
                worths[sum] = sum == 0 ? 0 : NONE;
                bits[sum] = 0;
            }
            for (int night = 0; night < nights.size && night < LOOK_NIGHTS; night++) {
                offer(night, LOOK_COST + nights.ices[night], pushes.worthOfLook(night));
            }
            int best = 0;
            for (int sum = 1; sum <= coin; sum++) {
                if (worths[sum] > worths[best]) {
                    best = sum;
                }
            }
            return best;
        }

        /** A set with this night has more as bits than all before, so it must be worth more to take their place. */
        private void offer(int night, int cost, int worth) {
            for (int sum = MOST_COIN; sum >= cost; sum--) {
                int before = worths[sum - cost];
                if (before != NONE && before + worth > worths[sum]) {
                    worths[sum] = before + worth;
                    bits[sum] = bits[sum - cost] | 1 << night;
                }
            }
        }
    }

    /** The host's sheets, as rows of one length in one array. */
    private static final class Sheets {
        private final int[] cells = new int[SHEETS * MOST_CELLS];
        final int[] sorts = {NONE, NONE, NONE, NONE};
        final int[] sizes = new int[SHEETS];

        boolean isMissing(int sheet) {
            return sorts[sheet] == NONE;
        }

        void drop(int sheet) {
            sorts[sheet] = NONE;
            sizes[sheet] = 0;
        }

        void renew(int sheet, int sort, int n) {
            sorts[sheet] = sort;
            sizes[sheet] = n;
            for (int i = 0; i < n; i++) {
                cells[sheet * MOST_CELLS + i] = 0;
            }
        }

        boolean hasItem(int sheet, int i) {
            return i >= 0 && i < sizes[sheet];
        }

        /** Written so that no sum can wrap around. */
        boolean hasRow(int sheet, int i, int n) {
            return i >= 0 && n >= 0 && i <= sizes[sheet] && n <= sizes[sheet] - i;
        }

        int item(int sheet, int i) {
            return cells[sheet * MOST_CELLS + i];
        }

        void write(int sheet, int i, int v) {
            int kept = v;
            if (sorts[sheet] == BYTES) {
                kept = (byte) v;
            } else if (sorts[sheet] == SHORTS) {
                kept = (short) v;
            }
            cells[sheet * MOST_CELLS + i] = kept;
        }

        void copyRow(int sheet, int i, int other, int j, int n) {
            System.arraycopy(cells, sheet * MOST_CELLS + i, cells, other * MOST_CELLS + j, n);
        }
    }
}
