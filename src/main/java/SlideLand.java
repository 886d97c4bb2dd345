/**
 * The land between slides: an UPPER and a LOWER land, and a STRIP between them that an office pushes.
 * The words in capitals are those of the document, ../shared/DOC.md.
 */
public final class SlideLand {
    public static final int BAD = -1, NO = -2, FULL = -3, NONE = -4;

    private static final String FIRST_TEXT =
            "u3;u12;u20;u33;u47;l0;l9;l21;l40;l55;s0,5,10;s1,11,4;s2,18,7;s3,30,12;s0,41,3;p1;p7;d0;d0;d1;d2;";

    private static final int UPPER = 0, LOWER = 1, LANDS = 2;
    private static final int RIGHT = 0, LEFT = 1;
    /** The KINDS that are not as a PLAIN one (0) is. */
    private static final int RICH = 1, LEANING = 2, SLOW = 3;

    private static final int MOST_LETTERS = 200, MOST_NUMBERS = 3;
    private static final int MOST_OF_LAND = 6, MOST_OF_STRIP = 7, MOST_PUSHES = 4, MOST_DAMPS = 8;
    private static final int MOST_INCH = 60, MOST_PUSHED = 20, MOST_DAMP = 3;
    private static final int MOST_SHIFT = 40, SHIFTS = 2 * MOST_SHIFT + 1;
    private static final int MOST_CHALK = 9, MOST_GOODS = 99, MOST_YEAR = 999, MOST_LINE = 99;
    private static final int MOST_ASKED = 6, MOST_UNDONE = 8, MOST_KEPT = 2;
    private static final int MOST_ROW = 9, MOST_SLIPS = 8;

    /** The UPPER and LOWER ones share one row: the LOWER ones stand behind the room of the UPPER ones. */
    private static final int ONES = LANDS * MOST_OF_LAND;
    private static final int UPPER_BITS = (1 << MOST_OF_LAND) - 1, LOWER_BITS = UPPER_BITS << MOST_OF_LAND;
    /** Where nobody is ever over against anybody: the inch of a one who is not told. */
    private static final int NOWHERE = -1000;
    /** Between these a PLACE less an inch has to be, for anybody of any KIND to be AGAINST anybody. */
    private static final int LEAST_GAP = -1, MOST_GAP = 2;
    private static final int NO_PUSH = 99;

    private final Letters text = new Letters();
    private Told told = new Told();
    /** What fault() and lay() read into, so that a TEXT with a FAULT leaves what is laid alone. */
    private Told draft = new Told();
    private final Stand now = new Stand();
    /** A Stand to try things with, made once, as no call may make objects. */
    private final Stand trial = new Stand();
    private final Pile past = new Pile(MOST_UNDONE);
    private final Pile kept = new Pile(MOST_KEPT);
    private final Asked asked = new Asked();
    private final Route route = new Route();
    private final ByShift byShift = new ByShift();
    private final int[] luck = new int[MOST_SLIPS + 1];

    public SlideLand() {
        for (int i = 0; i < FIRST_TEXT.length(); i++) {
            text.append(FIRST_TEXT.charAt(i));
        }
        told.read(text);
        text.size = 0;
        now.begin(told);
    }

    // ---- lands

    public int write(int letter) {
        if (!within(letter, 32, 126)) {
            return BAD;
        }
        return text.append(letter) ? text.size : FULL;
    }

    public int wipe() {
        int was = text.size;
        text.size = 0;
        return was;
    }

    public int fault() {
        return draft.read(text);
    }

    public int lay() {
        if (draft.read(text) != NONE || draft.strips == 0 || draft.pushes == 0) {
            return NO;
        }
        Told laid = draft;
        draft = told;
        told = laid;
        now.begin(told);
        past.size = 0;
        kept.size = 0;
        asked.size = 0;
        return told.strips;
    }

    public int land(int land, int k, int what) {
        if (!told.isOfLand(land, k)) {
            return BAD;
        }
        int one = oneOf(land, k);
        switch (what) {
            case 0:
                return cell(told.oneInch, one);
            case 1:
                return cell(now.has, one);
            case 2:
                return bitOf(now.wed, one);
            default:
                return BAD;
        }
    }

    public int strip(int s, int what) {
        if (!within(s, 0, told.strips - 1)) {
            return BAD;
        }
        switch (what) {
            case 0:
                return cell(told.kind, s);
            case 1:
                return cell(told.stripInch, s);
            case 2:
                return cell(now.goods, s);
            case 3:
                return now.placeOf(told, s) + 100;
            case 4:
                return bitOf(now.wed, ONES + s);
            default:
                return BAD;
        }
    }

    public int inches(int p) {
        return within(p, 0, told.pushes - 1) ? cell(told.pushed, p) : BAD;
    }

    public int damp(int n) {
        return within(n, 0, 99) ? told.dampOf(now.year + n) : BAD;
    }

    public int against(int s) {
        return within(s, 0, told.strips - 1) ? now.againstBits(told, s) : BAD;
    }

    // ---- acts

    public int push(int p, int way) {
        if (!isPush(p, way)) {
            return BAD;
        }
        past.put(now);
        now.shove(told, p, way);
        return now.shift + MOST_SHIFT;
    }

    public int chalk(int c) {
        if (!within(c, 0, MOST_CHALK)) {
            return BAD;
        }
        past.put(now);
        int was = now.chalk;
        now.chalk = c;
        return was;
    }

    public int pass(int n) {
        if (!within(n, 1, 20)) {
            return BAD;
        }
        if (now.year + n > MOST_YEAR) {
            return NO;
        }
        past.put(now);
        now.trade(told, n);
        return now.year;
    }

    public int line(int x) {
        if (!within(x, -MOST_LINE, MOST_LINE)) {
            return BAD;
        }
        int couple = now.coupleAt(told, x);
        if (couple == 0) {
            return NO;
        }
        past.put(now);
        now.wed |= couple;
        return Integer.bitCount(now.wed);
    }

    public int undo() {
        return past.takeInto(now) ? past.size : NO;
    }

    // ---- who meets whom

    public int ask(int s, int land, int k) {
        if (!within(s, 0, told.strips - 1) || !told.isOfLand(land, k)) {
            return BAD;
        }
        return asked.add(s, oneOf(land, k)) ? asked.size : FULL;
    }

    public int forget() {
        int were = asked.size;
        asked.size = 0;
        return were;
    }

    public int meeting(int k) {
        if (k < -1) {
            return BAD;
        }
        trial.copy(now);
        if (!route.find(told, trial, asked)) {
            return NONE;
        }
        if (k == -1) {
            return route.length;
        }
        return k < route.length ? cell(route.row, k) : NONE;
    }

    public int shifts(int what) {
        if (!within(what, 0, 1)) {
            return BAD;
        }
        byShift.findSo(told, now.year, asked);
        if (what == 0) {
            return byShift.howManySo;
        }
        return byShift.howManySo > 0 ? byShift.lowestSo : NONE;
    }

    public int most(int what) {
        if (!within(what, 0, 1)) {
            return BAD;
        }
        byShift.findPairs(told, now.year);
        int best = byShift.lowestOfMostPairs();
        return what == 0 ? cell(byShift.pairs, best) : best;
    }

    public int hut(int what) {
        if (!within(what, 0, 1)) {
            return BAD;
        }
        int most = -1, where = 0;
        for (int inch = 0; inch <= MOST_INCH; inch++) {
            int met = told.metFrom(inch, now.year);
            if (met > most) {
                most = met;
                where = inch;
            }
        }
        return what == 0 ? most : where;
    }

    public int behind(int n, int s) {
        if (!within(n, 0, 40) || !within(s, 0, told.strips - 1)) {
            return BAD;
        }
        trial.copy(now);
        trial.trade(told, n);
        return cell(trial.goods, s);
    }

    public int worth(int n, int what) {
        if (!within(n, 1, 20) || !within(what, 0, 1)) {
            return BAD;
        }
        trial.copy(now);
        trial.trade(told, n);
        int which = NO_PUSH, most = trial.allGoods(told);
        for (int p = 0; p < told.pushes; p++) {
            for (int way = RIGHT; way <= LEFT; way++) {
                trial.copy(now);
                trial.shove(told, p, way);
                trial.trade(told, n);
                int goods = trial.allGoods(told);
                if (goods > most) {
                    most = goods;
                    which = 10 * p + way;
                }
            }
        }
        return what == 0 ? which : most;
    }

    public int tells(int what) {
        if (!within(what, 0, 1)) {
            return BAD;
        }
        byShift.findSo(told, now.year, asked);
        int which = NONE, fewest = SHIFTS + 1;
        for (int s = 0; s < told.strips && byShift.howManySo > 0; s++) {
            for (int one = 0; one < ONES; one++) {
                if (told.isTold(one) && !asked.holds(s, one)) {
                    int part = byShift.greaterPart(told, now.year, s, one);
                    if (part < fewest) {
                        fewest = part;
                        which = 100 * s + 10 * landOf(one) + kOf(one);
                    }
                }
            }
        }
        return what == 0 || which == NONE ? which : fewest;
    }

    // ---- slips, centuries

    public int slips(int p, int way, int n, int x, int part) {
        if (!isPush(p, way) || !within(n, 0, MOST_SLIPS) || !within(x, 0, 10) || !within(part, 0, 1)) {
            return BAD;
        }
        weighSlips(n, x);
        int above = 0, below = 0;
        trial.copy(now);
        // PUSHES being alike, it stands the same whichever of them are done: how many are is all that tells.
        for (int done = 0; done <= n; done++) {
            int weight = cell(luck, done);
            below += weight;
            if (asked.allSo(told, trial)) {
                above += weight;
            }
            trial.shove(told, p, way);
        }
        int common = commonDivisor(above, below);
        if (common <= 0) {
            return BAD;
        }
        return part == 0 ? above / common : below / common;
    }

    public int century(int z, int n, int what) {
        if (!within(z, 0, 9999) || !within(n, 1, 60) || !within(what, 0, 1)) {
            return BAD;
        }
        trial.copy(now);
        for (int k = 0; k < n; k++) {
            actByDraw(drawOf(z, k));
        }
        return what == 0 ? trial.allGoods(told) : Integer.bitCount(trial.wed);
    }

    public int keep() {
        if (kept.isFull()) {
            return FULL;
        }
        kept.put(now);
        return kept.size;
    }

    public int back() {
        if (!kept.takeInto(now)) {
            return NO;
        }
        past.size = 0;
        return kept.size;
    }

    public int count(int what) {
        switch (what) {
            case 0:
                return cell(told.ofLand, UPPER);
            case 1:
                return cell(told.ofLand, LOWER);
            case 2:
                return told.strips;
            case 3:
                return told.pushes;
            case 10:
                return asked.size;
            case 11:
                return past.size;
            case 12:
                return kept.size;
            case 13:
                return text.size;
            default:
                return countNow(what);
        }
    }

    private int countNow(int what) {
        switch (what) {
            case 4:
                return now.year;
            case 5:
                return now.shift + MOST_SHIFT;
            case 6:
                return now.before + MOST_SHIFT;
            case 7:
                return now.chalk;
            case 8:
                return Integer.bitCount(now.wed);
            case 9:
                return now.allPairs(told);
            default:
                return BAD;
        }
    }

    private boolean isPush(int p, int way) {
        return within(p, 0, told.pushes - 1) && within(way, RIGHT, LEFT);
    }

    /** Into luck: of all ways (each of n given PUSHES being one of ten) in how many so many PUSHES are done. */
    private void weighSlips(int n, int x) {
        setCell(luck, 0, 1);
        for (int done = 1; done <= n; done++) {
            setCell(luck, done, 0);
        }
        for (int given = 1; given <= n; given++) {
            for (int done = given; done > 0; done--) {
                setCell(luck, done, cell(luck, done) * x + cell(luck, done - 1) * (10 - x));
            }
            setCell(luck, 0, cell(luck, 0) * x);
        }
    }

    private void actByDraw(int draw) {
        int rest = draw / 8;
        switch (draw % 8) {
            case 0:
            case 1:
            case 2:
            case 3:
                if (told.pushes > 0) {
                    trial.shove(told, rest % told.pushes, draw / 64 % 2 == 1 ? LEFT : RIGHT);
                }
                break;
            case 4:
                trial.chalk = rest % 10;
                break;
            case 5:
                trial.wed |= trial.coupleAt(told, rest % 61);
                break;
            default:
                if (trial.year < MOST_YEAR) {
                    trial.trade(told, 1);
                }
                break;
        }
    }

    private static int drawOf(int z, int k) {
        long x = 7919L * z + 6151L * k + 1;
        return (int) (x * x % 65521);
    }

    private static int commonDivisor(int a, int b) {
        int greater = b, less = a;
        // Of numbers of 31 bits the remainders are 0 behind less than 64 steps.
        for (int step = 0; step < 64 && less != 0; step++) {
            int remainder = greater % less;
            greater = less;
            less = remainder;
        }
        return greater;
    }

    private static boolean within(int number, int least, int most) {
        return number >= least && number <= most;
    }

    /** Whether one of a KIND is AGAINST another, its PLACE less that one's inch being the gap. */
    private static boolean meet(int kind, int gap) {
        return gap == 0 || kind == RICH && (gap == 1 || gap == -1) || kind == LEANING && gap == 2;
    }

    private static int shiftBehind(int shift, int inches, int way) {
        int moved = way == LEFT ? shift - inches : shift + inches;
        return Math.max(-MOST_SHIFT, Math.min(MOST_SHIFT, moved));
    }

    private static int oneOf(int land, int k) {
        return land * MOST_OF_LAND + k;
    }

    private static int landOf(int one) {
        return one < MOST_OF_LAND ? UPPER : LOWER;
    }

    private static int kOf(int one) {
        return one < MOST_OF_LAND ? one : one - MOST_OF_LAND;
    }

    private static int bitOf(int bits, int place) {
        return bits >> place & 1;
    }

    private static int cell(int[] row, int i) {
        return i >= 0 && i < row.length ? row[i] : 0;
    }

    private static void setCell(int[] row, int i, int number) {
        if (i >= 0 && i < row.length) {
            row[i] = number;
        }
    }

    private static void copyCells(int[] from, int[] to) {
        for (int i = 0; i < from.length && i < to.length; i++) {
            to[i] = from[i];
        }
    }

    /** THE TEXT. */
    private static final class Letters {
        final int[] letters = new int[MOST_LETTERS];
        int size;

        Letters() {
        }

        boolean append(int letter) {
            if (size >= MOST_LETTERS) {
                return false;
            }
            setCell(letters, size, letter);
            size++;
            return true;
        }

        /** The letter at a place, 0 behind the last one. */
        int letterAt(int place) {
            return place < size ? cell(letters, place) : 0;
        }

        boolean isFigureAt(int place) {
            int letter = letterAt(place);
            return letter >= '0' && letter <= '9';
        }

        /** How many figures the number at a place has: 0, 1 or 2, as no number has more. */
        int figuresAt(int place) {
            if (!isFigureAt(place)) {
                return 0;
            }
            return isFigureAt(place + 1) ? 2 : 1;
        }

        int numberAt(int place, int figures) {
            int first = letterAt(place) - '0';
            return figures == 1 ? first : 10 * first + letterAt(place + 1) - '0';
        }
    }

    /** What a TEXT tells: all that stays as long as a land is laid. */
    private static final class Told {
        final int[] oneInch = new int[ONES];
        final int[] ofLand = new int[LANDS];
        final int[] kind = new int[MOST_OF_STRIP];
        final int[] stripInch = new int[MOST_OF_STRIP];
        final int[] firstGoods = new int[MOST_OF_STRIP];
        final int[] pushed = new int[MOST_PUSHES];
        final int[] damps = new int[MOST_DAMPS];
        /** The numbers of the ITEM that is being read. */
        final int[] numbers = new int[MOST_NUMBERS];
        int strips;
        int pushes;
        int dampYears;

        Told() {
        }

        /** Tells all that stands in a TEXT: its FAULT, or NONE. */
        int read(Letters text) {
            clear();
            int place = 0;
            for (int item = 0; item < MOST_LETTERS && place < text.size; item++) {
                int end = endOfItem(text, place);
                if (end == NONE || !addItem(text.letterAt(place))) {
                    return place;
                }
                place = end;
            }
            return NONE;
        }

        private void clear() {
            for (int one = 0; one < ONES; one++) {
                setCell(oneInch, one, NOWHERE);
            }
            setCell(ofLand, UPPER, 0);
            setCell(ofLand, LOWER, 0);
            strips = 0;
            pushes = 0;
            dampYears = 0;
        }

        /** Where the ITEM at a place ends, its numbers being read, or NONE, if it is not of the form of one. */
        private int endOfItem(Letters text, int place) {
            int wanted = text.letterAt(place) == 's' ? 3 : 1;
            int end = place + 1;
            for (int i = 0; i < wanted; i++) {
                int figures = text.figuresAt(end);
                if (figures == 0) {
                    return NONE;
                }
                setCell(numbers, i, text.numberAt(end, figures));
                end += figures;
                if (text.letterAt(end) != (i < wanted - 1 ? ',' : ';')) {
                    return NONE;
                }
                end++;
            }
            return end;
        }

        private boolean addItem(int letter) {
            int number = cell(numbers, 0);
            switch (letter) {
                case 'u':
                    return addOne(UPPER, number);
                case 'l':
                    return addOne(LOWER, number);
                case 's':
                    return addStrip(number, cell(numbers, 1), cell(numbers, 2));
                case 'p':
                    return addPush(number);
                case 'd':
                    return addDamp(number);
                default:
                    return false;
            }
        }

        private boolean addOne(int land, int inch) {
            int k = cell(ofLand, land);
            if (k >= MOST_OF_LAND || inch > MOST_INCH) {
                return false;
            }
            setCell(oneInch, oneOf(land, k), inch);
            setCell(ofLand, land, k + 1);
            return true;
        }

        private boolean addStrip(int itsKind, int inch, int goods) {
            if (strips >= MOST_OF_STRIP || itsKind > SLOW || inch > MOST_INCH || goods > MOST_GOODS) {
                return false;
            }
            setCell(kind, strips, itsKind);
            setCell(stripInch, strips, inch);
            setCell(firstGoods, strips, goods);
            strips++;
            return true;
        }

        private boolean addPush(int inches) {
            if (pushes >= MOST_PUSHES || !within(inches, 1, MOST_PUSHED)) {
                return false;
            }
            setCell(pushed, pushes, inches);
            pushes++;
            return true;
        }

        private boolean addDamp(int itsDamp) {
            if (dampYears >= MOST_DAMPS || itsDamp > MOST_DAMP) {
                return false;
            }
            setCell(damps, dampYears, itsDamp);
            dampYears++;
            return true;
        }

        boolean isOfLand(int land, int k) {
            return within(land, UPPER, LOWER) && within(k, 0, cell(ofLand, land) - 1);
        }

        boolean isTold(int one) {
            return isOfLand(landOf(one), kOf(one));
        }

        int dampOf(int year) {
            if (dampYears <= 0) {
                return 0;
            }
            int i = year % dampYears;
            return i >= 0 && i < damps.length ? damps[i] : 0;
        }

        /** Where an inch of the STRIP is in a YEAR at SHIFT 0. */
        int dampInch(int inch, int year) {
            return inch + inch * dampOf(year) / 10;
        }

        /** The PLACE of one of the STRIP less the inch of one of a land, in a YEAR at SHIFT 0. */
        int gapUnshifted(int s, int one, int year) {
            return dampInch(cell(stripInch, s), year) - cell(oneInch, one);
        }

        /** Of how many a PLAIN one at an inch of the STRIP is over against, all SHIFTS taken together. */
        int metFrom(int inch, int year) {
            int at = dampInch(inch, year), met = 0;
            for (int one = 0; one < ONES; one++) {
                // A PLAIN one is AGAINST anybody at one SHIFT alone, if that is not too far.
                if (isTold(one) && within(at - cell(oneInch, one), -MOST_SHIFT, MOST_SHIFT)) {
                    met++;
                }
            }
            return met;
        }
    }

    /** How it stands: all that changes by acts, and is KEPT and UNDONE. */
    private static final class Stand {
        int shift;
        /** The SHIFT that was ahead of the latest PUSH. */
        int before;
        int chalk;
        int year;
        /** A bit for each who is WED: those of the lands first, those of the STRIP behind them. */
        int wed;
        final int[] goods = new int[MOST_OF_STRIP];
        final int[] has = new int[ONES];

        Stand() {
        }

        void begin(Told told) {
            shift = 0;
            before = 0;
            chalk = 0;
            year = 0;
            wed = 0;
            copyCells(told.firstGoods, goods);
            for (int one = 0; one < ONES; one++) {
                setCell(has, one, 0);
            }
        }

        void copy(Stand other) {
            shift = other.shift;
            before = other.before;
            chalk = other.chalk;
            year = other.year;
            wed = other.wed;
            copyCells(other.goods, goods);
            copyCells(other.has, has);
        }

        int placeOf(Told told, int s) {
            int by = cell(told.kind, s) == SLOW ? before : shift;
            return told.dampInch(cell(told.stripInch, s), year) + by;
        }

        int againstBits(Told told, int s) {
            int kind = cell(told.kind, s), place = placeOf(told, s), bits = 0;
            for (int one = 0; one < ONES; one++) {
                if (meet(kind, place - cell(told.oneInch, one))) {
                    bits |= 1 << one;
                }
            }
            return bits;
        }

        int allPairs(Told told) {
            int pairs = 0;
            for (int s = 0; s < told.strips; s++) {
                pairs += Integer.bitCount(againstBits(told, s));
            }
            return pairs;
        }

        int allGoods(Told told) {
            int all = 0;
            for (int s = 0; s < told.strips; s++) {
                all += cell(goods, s);
            }
            return all;
        }

        /** A PUSH. */
        void shove(Told told, int p, int way) {
            before = shift;
            shift = shiftBehind(shift, Math.max(0, cell(told.pushed, p) - chalk), way);
            chalk = Math.max(0, chalk - 1);
        }

        /** Lets YEARS go by, beyond the last one, too: who calls looks whether they can. */
        void trade(Told told, int years) {
            for (int i = 0; i < years; i++) {
                for (int s = 0; s < told.strips; s++) {
                    tradeOf(s, againstBits(told, s));
                }
                year++;
            }
        }

        private void tradeOf(int s, int bits) {
            int left = cell(goods, s);
            for (int one = 0; one < ONES && left > 0; one++) {
                if (bitOf(bits, one) == 1) {
                    left--;
                    setCell(has, one, cell(has, one) + 1);
                }
            }
            if ((bits & UPPER_BITS) != 0 && (bits & LOWER_BITS) != 0) {
                left = Math.min(MOST_GOODS, left + 3);
            }
            setCell(goods, s, left);
        }

        /** The bits of the two whom THE LINE at an inch would wed, 0 if it would wed nobody. */
        int coupleAt(Told told, int x) {
            int upper = unwedOfLand(told, UPPER, x);
            int lower = unwedOfLand(told, LOWER, x);
            int strip = unwedOfStrip(told, x);
            if (strip != 0 && upper != 0) {
                return upper | strip;
            }
            if (strip != 0 && lower != 0) {
                return strip | lower;
            }
            return upper != 0 && lower != 0 ? upper | lower : 0;
        }

        /** The bit of the lowest one of a land at an inch who is not WED, 0 if there is none. */
        private int unwedOfLand(Told told, int land, int x) {
            for (int k = 0; k < cell(told.ofLand, land); k++) {
                int one = oneOf(land, k);
                if (cell(told.oneInch, one) == x && bitOf(wed, one) == 0) {
                    return 1 << one;
                }
            }
            return 0;
        }

        private int unwedOfStrip(Told told, int x) {
            for (int s = 0; s < told.strips; s++) {
                if (bitOf(wed, ONES + s) == 0 && placeOf(told, s) == x) {
                    return 1 << (ONES + s);
                }
            }
            return 0;
        }
    }

    /** Stands put one upon the other, and taken from the top. */
    private static final class Pile {
        final Stand[] stands;
        int size;

        Pile(int most) {
            stands = new Stand[most > 0 ? most : 0];
            for (int i = 0; i < stands.length; i++) {
                stands[i] = new Stand();
            }
        }

        boolean isFull() {
            return size >= stands.length;
        }

        /** Puts a copy on top; the lowest one goes for it, if there is no more room. */
        void put(Stand stand) {
            if (isFull()) {
                dropLowest();
            }
            Stand room = standAt(size);
            if (room != null) {
                room.copy(stand);
                size++;
            }
        }

        boolean takeInto(Stand stand) {
            Stand top = standAt(size - 1);
            if (top == null) {
                return false;
            }
            stand.copy(top);
            size--;
            return true;
        }

        private void dropLowest() {
            Stand lowest = standAt(0);
            if (lowest != null) {
                for (int i = 1; i < stands.length; i++) {
                    stands[i - 1] = stands[i];
                }
                // The dropped one is the room for the next: no call makes another.
                stands[stands.length - 1] = lowest;
                size--;
            }
        }

        private Stand standAt(int i) {
            return i >= 0 && i < stands.length ? stands[i] : null;
        }
    }

    /** What is ASKED. */
    private static final class Asked {
        final int[] strip = new int[MOST_ASKED];
        final int[] one = new int[MOST_ASKED];
        int size;

        Asked() {
        }

        boolean add(int itsStrip, int itsOne) {
            if (size >= MOST_ASKED) {
                return false;
            }
            setCell(strip, size, itsStrip);
            setCell(one, size, itsOne);
            size++;
            return true;
        }

        boolean holds(int itsStrip, int itsOne) {
            for (int i = 0; i < size; i++) {
                if (cell(strip, i) == itsStrip && cell(one, i) == itsOne) {
                    return true;
                }
            }
            return false;
        }

        boolean allSo(Told told, Stand stand) {
            for (int i = 0; i < size; i++) {
                int s = cell(strip, i);
                if (!meet(cell(told.kind, s), stand.placeOf(told, s) - cell(told.oneInch, cell(one, i)))) {
                    return false;
                }
            }
            return true;
        }
    }

    /**
     * MEETING: goes through the SHIFTS, nearest first. What is ASKED hangs on the last two SHIFTS alone,
     * so each SHIFT is left once, by each PUSH, in order: the first row that is found is the first of the shortest.
     */
    private static final class Route {
        /** The SHIFTS (and 40) in the order in which they are come to. */
        final int[] queue = new int[SHIFTS];
        /** Of each SHIFT in the queue: the place there of that ahead of it, the move from that one, how many moves. */
        final int[] from = new int[SHIFTS];
        final int[] move = new int[SHIFTS];
        final int[] depth = new int[SHIFTS];
        final boolean[] seen = new boolean[SHIFTS];
        int queued;
        /** The row of PUSHES that was found. */
        final int[] row = new int[MOST_ROW];
        int length;

        Route() {
        }

        /** Whether there is a row from how a Stand stands, which is moved about for it. */
        boolean find(Told told, Stand stand, Asked asked) {
            length = 0;
            if (asked.allSo(told, stand)) {
                return true;
            }
            clear();
            come(stand.shift, 0, 0, 0);
            for (int at = 0; at < SHIFTS && at < queued; at++) {
                if (cell(depth, at) >= MOST_ROW) {
                    return false;
                }
                if (leave(at, told, stand, asked)) {
                    return true;
                }
            }
            return false;
        }

        private void clear() {
            queued = 0;
            for (int i = 0; i < seen.length; i++) {
                seen[i] = false;
            }
        }

        /** Gives each PUSH at a place of the queue: whether what is ASKED is so behind one. */
        private boolean leave(int at, Told told, Stand stand, Asked asked) {
            stand.before = cell(queue, at) - MOST_SHIFT;
            for (int p = 0; p < told.pushes; p++) {
                for (int way = RIGHT; way <= LEFT; way++) {
                    stand.shift = shiftBehind(stand.before, cell(told.pushed, p), way);
                    if (asked.allSo(told, stand)) {
                        writeRow(at, 10 * p + way);
                        return true;
                    }
                    come(stand.shift, at, 10 * p + way, cell(depth, at) + 1);
                }
            }
            return false;
        }

        private void come(int shift, int at, int by, int moves) {
            int i = shift + MOST_SHIFT;
            if (i >= 0 && i < seen.length && !seen[i]) {
                seen[i] = true;
                setCell(queue, queued, i);
                setCell(from, queued, at);
                setCell(move, queued, by);
                setCell(depth, queued, moves);
                queued++;
            }
        }

        private void writeRow(int at, int last) {
            length = cell(depth, at) + 1;
            setCell(row, length - 1, last);
            int place = at;
            for (int i = length - 2; i >= 0; i--) {
                setCell(row, i, cell(move, place));
                place = cell(from, place);
            }
        }
    }

    /** What is so at each of the SHIFTS (all told with 40 more), SLOW ones being at it, too. */
    private static final class ByShift {
        final boolean[] so = new boolean[SHIFTS];
        int howManySo;
        int lowestSo;
        final int[] pairs = new int[SHIFTS];

        ByShift() {
        }

        /** At which SHIFTS all that is ASKED is so. */
        void findSo(Told told, int year, Asked asked) {
            howManySo = 0;
            for (int i = SHIFTS - 1; i >= 0; i--) {
                boolean all = allSoAt(i - MOST_SHIFT, told, year, asked);
                if (i < so.length) {
                    so[i] = all;
                }
                if (all) {
                    howManySo++;
                    lowestSo = i;
                }
            }
        }

        private boolean allSoAt(int shift, Told told, int year, Asked asked) {
            for (int i = 0; i < asked.size; i++) {
                int s = cell(asked.strip, i);
                if (!meet(cell(told.kind, s), told.gapUnshifted(s, cell(asked.one, i), year) + shift)) {
                    return false;
                }
            }
            return true;
        }

        /** How many pairs are AGAINST one another at each SHIFT. */
        void findPairs(Told told, int year) {
            for (int i = 0; i < SHIFTS; i++) {
                setCell(pairs, i, 0);
            }
            for (int s = 0; s < told.strips; s++) {
                int kind = cell(told.kind, s);
                for (int one = 0; one < ONES; one++) {
                    int gap = told.gapUnshifted(s, one, year);
                    for (int met = LEAST_GAP; met <= MOST_GAP; met++) {
                        if (meet(kind, met)) {
                            // A SHIFT that is none has no place in the row.
                            int i = met - gap + MOST_SHIFT;
                            setCell(pairs, i, cell(pairs, i) + 1);
                        }
                    }
                }
            }
        }

        int lowestOfMostPairs() {
            int best = 0;
            for (int i = 1; i < SHIFTS; i++) {
                if (cell(pairs, i) > cell(pairs, best)) {
                    best = i;
                }
            }
            return best;
        }

        /** Of the SHIFTS found by findSo, how many are in the greater part: of a pair AGAINST one another, or not. */
        int greaterPart(Told told, int year, int s, int one) {
            int kind = cell(told.kind, s), gap = told.gapUnshifted(s, one, year), against = 0;
            for (int met = LEAST_GAP; met <= MOST_GAP; met++) {
                int i = met - gap + MOST_SHIFT;
                if (meet(kind, met) && i >= 0 && i < so.length && so[i]) {
                    against++;
                }
            }
            return Math.max(against, howManySo - against);
        }
    }
}
