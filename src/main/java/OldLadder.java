/** An old ladder, each rung of which bears one climber in its life. */
public final class OldLadder {
    public static final int NONE = -1, UNKNOWN = -2, OUTSIDE = -3, NOT = -4, FULL = -5;

    private static final int FIRST_HEIGHT = 8;
    private static final int MOST_HEIGHT = 20;
    private static final int MOST_CLIMBERS = 5;
    private static final int MOST_REACH = 6;
    private static final int MOST_LOAD = 5;
    private static final int ALL_TENTHS = 10;
    private static final int MOST_BYTES = 200;
    private static final int MOST_LINES = 12;
    private static final int MOST_KIND = 4;
    private static final int MOST_LEFT_UP = 9;
    private static final int MOST_ODD_RUNGS = 12;
    private static final int IMAGES = 2;
    private static final int ANY_NUMBER = 99;

    private static final int WORD_LADDER = 0;
    private static final int WORD_GONE = 1;
    private static final int WORD_WEAK = 2;
    private static final int WORD_SOUND = 3;
    private static final int WORD_FAR = 4;
    private static final int WORD_NEAR = 5;
    private static final int WORD_MIDDLE = 6;
    private static final int WORD_TOLD = 7;
    private static final int WORD_LOAD = 8;
    private static final int WORD_NOBODY = 9;
    private static final int WORDS = 10;

    private static final int KIND_FAR = 0;
    private static final int KIND_NEAR = 1;
    private static final int KIND_MIDDLE = 2;
    private static final int KIND_TOLD = 3;

    private final Text text;
    private final Rungs rungs;
    private final Crew crew;
    private final Image[] images;
    private final Crowd crowd;
    private final Rows rows;
    private final long[] gapOdds;

    public OldLadder() {
        text = new Text();
        rungs = new Rungs();
        crew = new Crew();
        images = new Image[IMAGES];
        for (int k = 0; k < IMAGES; k++) {
            images[k] = new Image();
        }
        crowd = new Crowd();
        rows = new Rows();
        gapOdds = new long[MOST_REACH];
    }

    // ---- what is told

    public int write(long bytes, int n) {
        if (n < 1 || n > 8) {
            return OUTSIDE;
        }
        if (text.length + n > MOST_BYTES) {
            return FULL;
        }
        for (int i = 0; i < n; i++) {
            text.append((int) (bytes >> (8 * i) & 255));
        }
        return text.length;
    }

    public int erase() {
        int had = text.length;
        text.length = 0;
        return had;
    }

    public int fault() {
        return text.firstFault(rungs.height, crew.size);
    }

    public int ladder() {
        if (text.firstFault(rungs.height, crew.size) != NONE) {
            return NOT;
        }
        int done = text.lines;
        for (int line = 0; line < done && line < MOST_LINES; line++) {
            obey(text.words[line], text.firsts[line], text.seconds[line]);
        }
        text.length = 0;
        startAnew();
        return done;
    }

    public int rung(int rung, int what) {
        if (!rungs.has(rung)) {
            return UNKNOWN;
        }
        switch (what) {
            case 0:
                return rungs.stateOf(rung);
            case 1:
                return rungs.tenthsOf(rung);
            case 2:
                return holds(rungs.free(), rung) ? 1 : 0;
            case 3:
                return rungs.treaderOf(rung);
            default:
                return OUTSIDE;
        }
    }

    public int climber(int climber, int what) {
        Climber one = crew.member(climber);
        if (one == null) {
            return UNKNOWN;
        }
        switch (what) {
            case 0:
                return one.ownKind();
            case 1:
                return one.reach;
            case 2:
                return one.load;
            case 3:
                return one.stride();
            case 4:
                return one.at;
            default:
                return OUTSIDE;
        }
    }

    public int as(int climber, int kind) {
        Climber one = crew.member(climber);
        if (one == null) {
            return UNKNOWN;
        }
        if (kind < 0 || kind > MOST_KIND) {
            return OUTSIDE;
        }
        if (!isSuch(one, kind) || one.at >= rungs.top()) {
            return NOT;
        }
        return one.aim(one.at, rungs.free(), rungs.top());
    }

    public int mind(int climber, int rungs) {
        Climber one = crew.member(climber);
        if (one == null || !this.rungs.hasAll(rungs)) {
            return UNKNOWN;
        }
        if (one instanceof Told told) {
            int minded = told.minded;
            told.minded = rungs;
            return minded;
        }
        return NOT;
    }

    // ---- climbs

    public int step(int climber, int rung) {
        Climber one = crew.member(climber);
        if (one == null || rung < 1 || rung > rungs.top()) {
            return UNKNOWN;
        }
        if (!canStep(one, one.at, rung)) {
            return NOT;
        }
        rungs.tread(rung, climber);
        one.at = rung;
        return rung;
    }

    public int climb(int climber) {
        Climber one = crew.member(climber);
        if (one == null) {
            return UNKNOWN;
        }
        int top = rungs.top();
        if (one.at >= top) {
            return NOT;
        }
        int path = one.pathFrom(one.at, rungs.free(), top);
        for (int rung = 1; rung <= top; rung++) {
            if (holds(path, rung)) {
                rungs.tread(rung, climber);
                one.at = rung;
            }
        }
        return one.at;
    }

    public int lower(int climber) {
        Climber one = crew.member(climber);
        if (one == null) {
            return UNKNOWN;
        }
        int was = one.at;
        one.at = 0;
        return was;
    }

    public int judge(int climber, int rungs) {
        Climber one = crew.member(climber);
        if (one == null || !this.rungs.hasAll(rungs)) {
            return UNKNOWN;
        }
        int top = this.rungs.top();
        int at = 0;
        for (int rung = 1; rung <= top; rung++) {
            if (rung == top || holds(rungs, rung)) {
                if (!canStep(one, at, rung)) {
                    return rung;
                }
                at = rung;
            }
        }
        return NONE;
    }

    public int keep(int k) {
        if (k < 0 || k >= IMAGES) {
            return UNKNOWN;
        }
        images[k].take(rungs, crew);
        return Integer.bitCount(rungs.spent);
    }

    public int back(int k) {
        if (k < 0 || k >= IMAGES) {
            return UNKNOWN;
        }
        if (!images[k].taken) {
            return NOT;
        }
        images[k].restore(rungs, crew);
        return Integer.bitCount(rungs.spent);
    }

    // ---- foretold

    public int most(int stride, int what) {
        if (!isReach(stride) || what < 0 || what > 1) {
            return OUTSIDE;
        }
        if (what == 0) {
            return mostAlike(stride);
        }
        return rungs.top() <= stride ? NONE : narrowStretch(stride);
    }

    public long ways(int set) {
        if (!crew.hasAll(set)) {
            return UNKNOWN;
        }
        return crowd.waysOf(crew, set, rungs);
    }

    public int largest(int what) {
        if (what < 0 || what > 1) {
            return OUTSIDE;
        }
        int best = 0;
        for (int set = 1; set < 1 << crew.size; set++) {
            if (Integer.bitCount(set) > Integer.bitCount(best) && crowd.waysOf(crew, set, rungs) > 0) {
                best = set;
            }
        }
        return what == 0 ? Integer.bitCount(best) : best;
    }

    public int order(int set, int i) {
        if (!crew.hasAll(set)) {
            return UNKNOWN;
        }
        if (i < NONE) {
            return OUTSIDE;
        }
        if (i >= Integer.bitCount(set)) {
            return NONE;
        }
        rows.findBest(crew, set, rungs);
        if (i == NONE) {
            return rows.bestUp;
        }
        return i < MOST_CLIMBERS ? rows.best[i] : NONE;
    }

    public int mends(int set) {
        if (!crew.hasAll(set)) {
            return UNKNOWN;
        }
        return crowd.mendsOf(crew, set, rungs);
    }

    public int spoilt(int stride, int k) {
        if (!isReach(stride) || k < 0 || k > MOST_LEFT_UP) {
            return OUTSIDE;
        }
        if (rungs.top() <= stride) {
            return NONE;
        }
        // Each rung taken out of the narrowest stretch makes MOST one less, and no rung makes it more than one less.
        return Math.max(0, mostAlike(stride) - k);
    }

    public int both(int stride) {
        if (!isReach(stride)) {
            return OUTSIDE;
        }
        int alike = mostAlike(stride);
        // The way down is a way up told backwards, so each climber is two of those who go up alone.
        return alike == ANY_NUMBER ? ANY_NUMBER : alike / 2;
    }

    public long odds(int stride, int part) {
        if (!isReach(stride) || part < 0 || part > 1) {
            return OUTSIDE;
        }
        int weakAndFree = Integer.bitCount(rungs.weak & rungs.free());
        if (weakAndFree > MOST_ODD_RUNGS) {
            return NOT;
        }
        long below = 1;
        for (int i = 0; i < weakAndFree; i++) {
            below *= ALL_TENTHS;
        }
        long above = weightOfUp(stride);
        long common = Math.max(1, commonDivisor(above, below));
        return part == 0 ? above / common : below / common;
    }

    public int fits(int rungs, int what) {
        if (!this.rungs.hasAll(rungs)) {
            return UNKNOWN;
        }
        if (what < 0 || what > 1) {
            return OUTSIDE;
        }
        int top = this.rungs.top();
        int free = this.rungs.whole();
        int reaches = 0;
        for (int reach = 1; reach <= MOST_REACH; reach++) {
            Climber one = newClimber(what == 0 ? KIND_FAR : KIND_NEAR, reach);
            if (one.pathFrom(0, free, top) == (rungs | bit(top))) {
                reaches |= bit(reach);
            }
        }
        return reaches;
    }

    public int make(int set, int h) {
        if (!crew.hasAll(set)) {
            return UNKNOWN;
        }
        if (h < 1 || h > MOST_HEIGHT) {
            return OUTSIDE;
        }
        int needed = 0;
        for (int i = 0; i < crew.size; i++) {
            Climber one = crew.member(i);
            if (one != null && (set >> i & 1) == 1) {
                // By himself he needs a rung at each whole stride that is below the top, h and 1.
                needed += h / Math.max(1, one.stride());
            }
        }
        return needed;
    }

    public int count(int what) {
        switch (what) {
            case 0:
                return rungs.height;
            case 1:
                return crew.size;
            case 2:
                return rungs.free();
            case 3:
                return rungs.spent;
            case 4:
                return rungs.gone;
            case 5:
                return crew.standingAt(rungs.top());
            case 6:
                return text.length;
            default:
                return OUTSIDE;
        }
    }

    // ---- what the calls share

    private void obey(int word, int first, int second) {
        switch (word) {
            case WORD_LADDER:
                rungs.renew(first);
                break;
            case WORD_GONE:
                rungs.lose(first);
                break;
            case WORD_WEAK:
                rungs.weaken(first, second);
                break;
            case WORD_SOUND:
                rungs.heal(first);
                break;
            case WORD_LOAD:
                crew.burden(first, second);
                break;
            case WORD_NOBODY:
                crew.size = 0;
                break;
            default:
                crew.join(newClimber(word - WORD_FAR, first));
                break;
        }
    }

    private void startAnew() {
        rungs.freeAll();
        crew.toGround();
        for (int k = 0; k < IMAGES; k++) {
            images[k].taken = false;
        }
    }

    private boolean canStep(Climber one, int from, int to) {
        if (to <= from || to - from > one.stride()) {
            return false;
        }
        return to == rungs.top() || holds(rungs.free(), to);
    }

    private int mostAlike(int stride) {
        if (rungs.top() <= stride) {
            return ANY_NUMBER;
        }
        return freeInStretch(narrowStretch(stride), stride);
    }

    private int narrowStretch(int stride) {
        int narrow = 1;
        for (int low = 2; low + stride <= rungs.top(); low++) {
            if (freeInStretch(low, stride) < freeInStretch(narrow, stride)) {
                narrow = low;
            }
        }
        return narrow;
    }

    private int freeInStretch(int low, int stride) {
        return Integer.bitCount(rungs.free() >> (low - 1) & ((1 << stride) - 1));
    }

    /** Of all ways in which tenths can fall, 10 for each WEAK RUNG that is FREE: those that leave no gap too wide. */
    private long weightOfUp(int stride) {
        for (int gap = 0; gap < MOST_REACH; gap++) {
            gapOdds[gap] = gap == 0 ? 1 : 0;
        }
        for (int rung = 1; rung <= rungs.height; rung++) {
            int tenths = rungs.tenthsOf(rung);
            if (!holds(rungs.free(), rung)) {
                passRung(stride, 0, 1);
            } else if (!holds(rungs.weak, rung)) {
                passRung(stride, 1, 0);
            } else {
                passRung(stride, tenths, ALL_TENTHS - tenths);
            }
        }
        return sumOfGaps(stride);
    }

    private void passRung(int stride, int holding, int breaking) {
        long reached = sumOfGaps(stride);
        for (int gap = MOST_REACH - 1; gap > 0; gap--) {
            gapOdds[gap] = gapOdds[gap - 1] * breaking;
        }
        gapOdds[0] = reached * holding;
    }

    private long sumOfGaps(int stride) {
        long sum = 0;
        for (int gap = 0; gap < stride && gap < MOST_REACH; gap++) {
            sum += gapOdds[gap];
        }
        return sum;
    }

    private static long commonDivisor(long one, long other) {
        long a = one;
        long b = other;
        for (int i = 0; i < 200 && b != 0; i++) {
            long rest = a % b;
            a = b;
            b = rest;
        }
        return a;
    }

    private static boolean isReach(int stride) {
        return stride >= 1 && stride <= MOST_REACH;
    }

    private static boolean isSuch(Climber one, int kind) {
        switch (kind) {
            case 0:
                return true;
            case 1:
                return one instanceof Far;
            case 2:
                return one instanceof Near;
            case 3:
                return one instanceof Middle;
            default:
                return one instanceof Told;
        }
    }

    private static Climber newClimber(int kind, int reach) {
        switch (kind) {
            case KIND_NEAR:
                return new Near(reach);
            case KIND_MIDDLE:
                return new Middle(reach);
            case KIND_TOLD:
                return new Told(reach);
            default:
                return new Far(reach);
        }
    }

    private static int bit(int rung) {
        return 1 << (rung - 1);
    }

    private static boolean holds(int set, int rung) {
        return (set >> (rung - 1) & 1) == 1;
    }

    /** The rung of the set with number n, from 0 on, the lowest first. */
    private static int nthRung(int set, int n) {
        int left = n;
        for (int rung = 1; rung <= MOST_HEIGHT; rung++) {
            int has = set >> (rung - 1) & 1;
            if (has == 1 && left == 0) {
                return rung;
            }
            left -= has;
        }
        return NONE;
    }

    private static String spelling(int word) {
        switch (word) {
            case WORD_LADDER:
                return "ladder";
            case WORD_GONE:
                return "gone";
            case WORD_WEAK:
                return "weak";
            case WORD_SOUND:
                return "sound";
            case WORD_FAR:
                return "far";
            case WORD_NEAR:
                return "near";
            case WORD_MIDDLE:
                return "middle";
            case WORD_TOLD:
                return "told";
            case WORD_LOAD:
                return "load";
            default:
                return "nobody";
        }
    }

    /** THE TEXT, and its lines as they were read last. */
    private static final class Text {
        private static final int END = 0;
        private static final int WORD = 1;
        private static final int NUMBER = 2;
        private static final int SIGN = 3;
        private static final int BLANK = 32;
        private static final int BETWEEN_LINES = 59;

        private final int[] bytes = new int[MOST_BYTES];
        private int length;
        private final int[] words = new int[MOST_LINES];
        private final int[] firsts = new int[MOST_LINES];
        private final int[] seconds = new int[MOST_LINES];
        private int lines;
        private int begin;
        private int end;
        private int token;
        private int value;
        private int height;
        private int people;

        private void append(int one) {
            if (length < MOST_BYTES) {
                bytes[length] = one;
                length++;
            }
        }

        /** The place of the FAULT, as told to a ladder of that height with so many climbers; NONE. */
        private int firstFault(int heightNow, int peopleNow) {
            height = heightNow;
            people = peopleNow;
            lines = 0;
            end = 0;
            for (int line = 0; line < MOST_LINES; line++) {
                if (!lineStands(line)) {
                    return begin;
                }
                lines = line + 1;
                readToken();
                if (token == END) {
                    return NONE;
                }
                if (token != SIGN || value != BETWEEN_LINES) {
                    return begin;
                }
            }
            return begin;
        }

        private boolean lineStands(int line) {
            readToken();
            int word = token == WORD ? value : NONE;
            words[line] = word;
            switch (word) {
                case WORD_LADDER:
                    if (!numberStands(firsts, line, 1, MOST_HEIGHT)) {
                        return false;
                    }
                    height = value;
                    return true;
                case WORD_GONE:
                case WORD_SOUND:
                    return numberStands(firsts, line, 1, height);
                case WORD_WEAK:
                    return numberStands(firsts, line, 1, height) && numberStands(seconds, line, 0, ALL_TENTHS);
                case WORD_FAR:
                case WORD_NEAR:
                case WORD_MIDDLE:
                case WORD_TOLD:
                    people++;
                    // A sixth is a fault at his word, so no token is read behind it.
                    return people <= MOST_CLIMBERS && numberStands(firsts, line, 1, MOST_REACH);
                case WORD_LOAD:
                    return numberStands(firsts, line, 0, people - 1) && numberStands(seconds, line, 0, MOST_LOAD);
                case WORD_NOBODY:
                    people = 0;
                    return true;
                default:
                    return false;
            }
        }

        private boolean numberStands(int[] row, int line, int low, int high) {
            readToken();
            if (token != NUMBER || value < low || value > high) {
                return false;
            }
            row[line] = value;
            return true;
        }

        private void readToken() {
            begin = rowEnd(end, BLANK, BLANK);
            if (begin >= length) {
                token = END;
                end = begin;
                return;
            }
            int sign = bytes[begin];
            if (sign >= 'a' && sign <= 'z') {
                token = WORD;
                end = rowEnd(begin, 'a', 'z');
                value = wordRead();
            } else if (sign >= '0' && sign <= '9') {
                token = NUMBER;
                end = rowEnd(begin, '0', '9');
                value = numberRead();
            } else {
                token = SIGN;
                end = begin + 1;
                value = sign;
            }
        }

        /** Where the row of bytes from low to high that begins there has ended. */
        private int rowEnd(int from, int low, int high) {
            int place = from;
            while (place < length && bytes[place] >= low && bytes[place] <= high) {
                place++;
            }
            return place;
        }

        private int wordRead() {
            for (int word = 0; word < WORDS; word++) {
                if (isSpelt(spelling(word))) {
                    return word;
                }
            }
            return NONE;
        }

        private boolean isSpelt(String word) {
            if (word.length() != end - begin) {
                return false;
            }
            for (int i = 0; i < word.length(); i++) {
                if (word.charAt(i) != bytes[begin + i]) {
                    return false;
                }
            }
            return true;
        }

        private int numberRead() {
            // NONE is below every bound, so that a number of more digits stands nowhere.
            if (end - begin > 2) {
                return NONE;
            }
            int number = 0;
            for (int i = begin; i < end; i++) {
                number = number * 10 + bytes[i] - '0';
            }
            return number;
        }
    }

    /** THE LADDER. */
    private static final class Rungs {
        private int height = FIRST_HEIGHT;
        private int weak;
        private int gone;
        private int spent;
        private final int[] tenths = new int[MOST_HEIGHT];
        private final int[] treaders = new int[MOST_HEIGHT];

        private int top() {
            return height + 1;
        }

        private boolean has(int rung) {
            return rung >= 1 && rung <= height;
        }

        private boolean hasAll(int set) {
            return set >> height == 0;
        }

        private int whole() {
            return ((1 << height) - 1) & ~gone;
        }

        private int free() {
            return whole() & ~spent;
        }

        private int stateOf(int rung) {
            if (holds(gone, rung)) {
                return 2;
            }
            return holds(weak, rung) ? 1 : 0;
        }

        private int tenthsOf(int rung) {
            if (!has(rung) || holds(gone, rung)) {
                return 0;
            }
            return holds(weak, rung) ? tenths[rung - 1] : ALL_TENTHS;
        }

        private int treaderOf(int rung) {
            return has(rung) && holds(spent, rung) ? treaders[rung - 1] : NONE;
        }

        private void renew(int newHeight) {
            height = newHeight;
            weak = 0;
            gone = 0;
        }

        private void lose(int rung) {
            weak &= ~bit(rung);
            gone |= bit(rung);
        }

        private void weaken(int rung, int holding) {
            if (has(rung)) {
                gone &= ~bit(rung);
                weak |= bit(rung);
                tenths[rung - 1] = holding;
            }
        }

        private void heal(int rung) {
            weak &= ~bit(rung);
            gone &= ~bit(rung);
        }

        private void freeAll() {
            spent = 0;
        }

        /** The TOP is trodden too, and is never spent. */
        private void tread(int rung, int climber) {
            if (has(rung)) {
                spent |= bit(rung);
                treaders[rung - 1] = climber;
            }
        }
    }

    /** The CLIMBERS that there are. */
    private static final class Crew {
        private final Climber[] members = new Climber[MOST_CLIMBERS];
        private int size;

        private Climber member(int climber) {
            return climber >= 0 && climber < size && climber < MOST_CLIMBERS ? members[climber] : null;
        }

        private boolean hasAll(int set) {
            return set >> size == 0;
        }

        private void join(Climber one) {
            if (size < MOST_CLIMBERS) {
                members[size] = one;
                size++;
            }
        }

        private void burden(int climber, int load) {
            Climber one = member(climber);
            if (one != null) {
                one.load = load;
            }
        }

        private void toGround() {
            for (int i = 0; i < size; i++) {
                Climber one = member(i);
                if (one != null) {
                    one.at = 0;
                }
                if (one instanceof Told told) {
                    told.minded = 0;
                }
            }
        }

        private int standingAt(int place) {
            int set = 0;
            for (int i = 0; i < size; i++) {
                Climber one = member(i);
                if (one != null && one.at == place) {
                    set |= 1 << i;
                }
            }
            return set;
        }
    }

    private abstract static class Climber {
        final int reach;
        int load;
        int at;

        Climber(int reach) {
            this.reach = reach;
        }

        abstract int ownKind();

        /** Which of the FREE RUNGS in his STRIDE, one at least, he takes. */
        abstract int pick(int within);

        final int stride() {
            return Math.max(1, reach - load);
        }

        /** To which RUNG, or the TOP, he steps from there; NONE. */
        final int aim(int from, int free, int top) {
            int stride = stride();
            if (top - from <= stride) {
                return top;
            }
            int within = (free >> from & ((1 << stride) - 1)) << from;
            return within == 0 ? NONE : pick(within);
        }

        /** The RUNGS on which he steps by his KIND, the TOP as the bit above the RUNGS. */
        final int pathFrom(int from, int free, int top) {
            int path = 0;
            int here = from;
            for (int i = 0; i <= MOST_HEIGHT && here < top; i++) {
                int to = aim(here, free, top);
                if (to == NONE) {
                    break;
                }
                path |= bit(to);
                here = to;
            }
            return path;
        }
    }

    private static class Far extends Climber {
        Far(int reach) {
            super(reach);
        }

        int ownKind() {
            return KIND_FAR;
        }

        int pick(int within) {
            return nthRung(within, Integer.bitCount(within) - 1);
        }
    }

    private static class Near extends Climber {
        Near(int reach) {
            super(reach);
        }

        int ownKind() {
            return KIND_NEAR;
        }

        int pick(int within) {
            return nthRung(within, 0);
        }
    }

    private static final class Middle extends Near {
        Middle(int reach) {
            super(reach);
        }

        int ownKind() {
            return KIND_MIDDLE;
        }

        int pick(int within) {
            return nthRung(within, (Integer.bitCount(within) - 1) / 2);
        }
    }

    private static final class Told extends Far {
        int minded;

        Told(int reach) {
            super(reach);
        }

        int ownKind() {
            return KIND_TOLD;
        }

        int pick(int within) {
            int heeded = (within & minded) == 0 ? within : within & minded;
            return nthRung(heeded, Integer.bitCount(heeded) - 1);
        }
    }

    /** What was kept: RUNGS that are SPENT, by whom, and where all are. */
    private static final class Image {
        private boolean taken;
        private int spent;
        private final int[] treaders = new int[MOST_HEIGHT];
        private final int[] places = new int[MOST_CLIMBERS];

        private void take(Rungs rungs, Crew crew) {
            taken = true;
            spent = rungs.spent;
            System.arraycopy(rungs.treaders, 0, treaders, 0, MOST_HEIGHT);
            for (int i = 0; i < MOST_CLIMBERS; i++) {
                Climber one = crew.member(i);
                places[i] = one == null ? 0 : one.at;
            }
        }

        private void restore(Rungs rungs, Crew crew) {
            rungs.spent = spent;
            System.arraycopy(treaders, 0, rungs.treaders, 0, MOST_HEIGHT);
            for (int i = 0; i < MOST_CLIMBERS; i++) {
                Climber one = crew.member(i);
                if (one != null) {
                    one.at = places[i];
                }
            }
        }
    }

    /**
     * Climbers going up together, rung by rung. A state says of each how many rungs have gone by since his last one (his
     * gap, below his stride, or he is lost); it is a number with one digit for each. Its worth is in how many ways it
     * comes about or, if the ladder may be mended, one more than the fewest mends; 0, if it does not come about.
     */
    private static final class Crowd {
        private static final int FEW_STATES = 216;
        private static final int MOST_STATES = 7776;

        private long[] now = new long[FEW_STATES];
        private long[] next = new long[FEW_STATES];
        private final int[] strides = new int[MOST_CLIMBERS];
        private final int[] weights = new int[MOST_CLIMBERS];
        private final int[] gaps = new int[MOST_CLIMBERS];
        private int size;
        private int states;
        private int allWeights;
        private boolean mending;

        private long waysOf(Crew crew, int set, Rungs rungs) {
            mending = false;
            goUp(crew, set, rungs);
            long sum = 0;
            for (int state = 0; state < states; state++) {
                sum += now[state];
            }
            return sum;
        }

        private int mendsOf(Crew crew, int set, Rungs rungs) {
            mending = true;
            goUp(crew, set, rungs);
            long fewest = 0;
            for (int state = 0; state < states; state++) {
                fewest = lesser(fewest, now[state]);
            }
            // With 0 for none, one less than the worth is NONE just then.
            return (int) fewest - 1;
        }

        private void goUp(Crew crew, int set, Rungs rungs) {
            enrol(crew, set);
            makeRoom();
            now[0] = 1;
            for (int rung = 1; rung <= rungs.height; rung++) {
                passBy(holds(rungs.free(), rung));
                long[] passed = now;
                now = next;
                next = passed;
            }
        }

        private void enrol(Crew crew, int set) {
            size = 0;
            states = 1;
            allWeights = 0;
            for (int i = 0; i < MOST_CLIMBERS; i++) {
                Climber one = crew.member(i);
                if (one != null && (set >> i & 1) == 1) {
                    strides[size] = one.stride();
                    weights[size] = states;
                    allWeights += states;
                    states *= strides[size];
                    size++;
                }
            }
        }

        /** Rows for as many states, without worth; the long rows are made once, when they are needed. */
        private void makeRoom() {
            if (states > now.length) {
                now = new long[MOST_STATES];
                next = new long[MOST_STATES];
            }
            for (int state = 0; state < states; state++) {
                now[state] = 0;
                next[state] = 0;
            }
        }

        private void passBy(boolean free) {
            for (int i = 0; i < size; i++) {
                gaps[i] = 0;
            }
            for (int state = 0; state < states; state++) {
                long worth = now[state];
                if (worth != 0) {
                    now[state] = 0;
                    giveRung(state, worth, free);
                }
                countGaps();
            }
        }

        /** The gaps become those of the next state: one more, with the first digit least. */
        private void countGaps() {
            for (int i = 0; i < size; i++) {
                gaps[i]++;
                if (gaps[i] < strides[i]) {
                    return;
                }
                gaps[i] = 0;
            }
        }

        private void giveRung(int state, long worth, boolean free) {
            int pressed = 0;
            int lastPressed = NONE;
            for (int i = 0; i < size; i++) {
                if (gaps[i] == strides[i] - 1) {
                    pressed++;
                    lastPressed = i;
                }
            }
            if (pressed == 0) {
                reach(state + allWeights, worth);
            }
            if (pressed > 1 || !free && !mending) {
                return;
            }
            for (int i = 0; i < size; i++) {
                if (pressed == 0 || i == lastPressed) {
                    reach(state + allWeights - weights[i] * (gaps[i] + 1), free ? worth : worth + 1);
                }
            }
        }

        private void reach(int state, long worth) {
            if (state >= 0 && state < next.length) {
                next[state] = mending ? lesser(next[state], worth) : next[state] + worth;
            }
        }

        /** The lesser worth of those that are any. */
        private static long lesser(long one, long other) {
            if (one == 0 || other == 0) {
                return one + other;
            }
            return Math.min(one, other);
        }
    }

    /** Rows of climbers, one behind the other by KIND. */
    private static final class Rows {
        private final int[] row = new int[MOST_CLIMBERS];
        private final int[] best = new int[MOST_CLIMBERS];
        private int bestUp;

        private void findBest(Crew crew, int set, Rungs rungs) {
            bestUp = NONE;
            tryRows(crew, set, rungs.free(), rungs.top(), 0, 0);
        }

        private void tryRows(Crew crew, int left, int free, int top, int depth, int up) {
            if (left == 0 || depth >= MOST_CLIMBERS) {
                // Rows come in their order, so only one that is better takes the place of an earlier one.
                if (up > bestUp) {
                    bestUp = up;
                    System.arraycopy(row, 0, best, 0, MOST_CLIMBERS);
                }
                return;
            }
            for (int i = 0; i < MOST_CLIMBERS; i++) {
                Climber one = crew.member(i);
                if (one != null && (left >> i & 1) == 1) {
                    row[depth] = i;
                    int path = one.pathFrom(0, free, top);
                    int upThen = holds(path, top) ? up + 1 : up;
                    tryRows(crew, left & ~(1 << i), free & ~path, top, depth + 1, upThen);
                }
            }
        }
    }
}
