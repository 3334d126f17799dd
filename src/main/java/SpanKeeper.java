import java.util.Arrays;

/**
 * Error span keeper: readings (sources) with spans, formulas of them read from a tape, and what is
 * so of the formulas while the sources stand anywhere in their spans. No call throws.
 */
public final class SpanKeeper {
    public static final int NONE = -1, BAD = -2, STATE = -3, FULL = -4, NOT = -5, PAST = -6;
    public static final long NO = Long.MIN_VALUE, OVER = Long.MIN_VALUE + 1;

    private static final int NOTHING = -11, BEYOND = -13, BELOW = -14;
    private static final int NO_SUCH = -1000, WRONG_V = -1001, NO_BEST = -1000, NO_FIT = -1000;
    private static final int ALL_AS_TOLD = -5, FAULT_BASE = -100;

    private static final int SOURCES = 6, SOURCE_SETS = 1 << SOURCES, FORMULAS = 6;
    private static final int TAPE_BYTES = 60, MOST_OPEN = 6, MOST_FIGURES = 4, LAST_BYTE = 127;
    private static final int VALUE = 0, SPAN = 1, COST = 2, SOURCE_LOW = 3, SOURCE_HIGH = 4;
    private static final int MOST_VALUE = 99, MOST_SPAN = 20, MOST_COST = 99;
    private static final int PLAN_ROWS = 8, HALVINGS = 2, MOST_HALVINGS = 4;
    private static final int LISTS = 4, LIST_PLACES = 8;
    private static final int MOST_SEEDS = 30;

    /** Ends of a span, as calls ask for them. */
    private static final int LOW = 0, HIGH = 1, WIDTH = 2;

    /** Kinds of parts; what is made of nothing comes first. */
    private static final int LETTER = 0, NUMBER = 1, LESS = 2, SUM = 3, DIFFERENCE = 4, PRODUCT = 5;

    /** How a formula changes by a source. */
    private static final int FLAT = 0, RISES = 1, FALLS = 2, UNTOLD = 3;

    private final State now = new State();
    private final State taken = new State();
    private boolean imageTaken = false;
    private final Tape tape = new Tape();
    private final Thought thought = new Thought();
    private final long[][] rows = new long[LISTS][LIST_PLACES];
    private final int[] rowLength = new int[LISTS];
    /** Places of the signs on the way, the whole formula's first. */
    private final int[] wayPlace = new int[TAPE_BYTES];
    private int wayLength = 0;

    public SpanKeeper() {
        Arrays.fill(rowLength, NOTHING);
    }

    // ---- sources, formulas

    public int set(int source, int what, int v) {
        if (!isSource(source) || what < VALUE || what > COST) {
            return NO_SUCH;
        }
        if (!mayBecome(what, v)) {
            return WRONG_V;
        }
        int[] row = now.rowOf(what);
        int was = row[source];
        row[source] = v;
        return was;
    }

    public int of(int source, int what) {
        if (!isSource(source)) {
            return NO_SUCH;
        }
        switch (what) {
            case VALUE:
            case SPAN:
            case COST:
                return now.rowOf(what)[source];
            case SOURCE_LOW:
                return now.lowOf(source);
            case SOURCE_HIGH:
                return now.highOf(source);
            default:
                return NO_SUCH;
        }
    }

    public int feed(int letter) {
        if (letter < 1 || letter > LAST_BYTE) {
            return BAD;
        }
        return tape.append(letter) ? tape.length : FULL;
    }

    public int formula() {
        Formula read = tape.readFormula();
        tape.length = 0;
        if (read == null) {
            return FAULT_BASE - tape.at;
        }
        if (now.formulaCount >= FORMULAS) {
            return FULL;
        }
        int number = now.formulaCount;
        now.formulas[number] = read;
        now.formulaCount++;
        return number;
    }

    public int drop() {
        if (now.formulaCount <= 0) {
            return STATE;
        }
        now.formulaCount--;
        now.formulas[now.formulaCount] = null;
        return now.formulaCount;
    }

    public int parts(int formula, int what) {
        Formula asked = formulaOf(formula);
        if (asked == null) {
            return NONE;
        }
        switch (what) {
            case 0:
                return asked.size;
            case 1:
                return asked.unlike;
            case 2:
                return asked.mostAlike;
            case 3:
                return asked.sources;
            case 4:
                return asked.depth;
            default:
                return NONE;
        }
    }

    public int alike(int one, int other) {
        Formula first = formulaOf(one);
        Formula second = formulaOf(other);
        if (first == null || second == null) {
            return NONE;
        }
        return first.isLike(second) ? 1 : 0;
    }

    // ---- spans

    public long span(int formula, int end) {
        Formula asked = formulaOf(formula);
        if (asked == null || end < LOW || end > WIDTH) {
            return NO;
        }
        carryAsItIs(asked);
        if (thought.over) {
            keepWay(asked);
        }
        return thought.told(end);
    }

    public int way(int k) {
        if (k == -1) {
            return wayLength;
        }
        if (k < 0 || k >= wayLength) {
            return NONE;
        }
        return wayPlace[wayLength - 1 - k];
    }

    public long exact(int formula) {
        Formula asked = formulaOf(formula);
        if (asked == null) {
            return NO;
        }
        carryAsItIs(asked);
        if (thought.over) {
            return OVER;
        }
        for (int source = 0; source < SOURCES; source++) {
            thought.at[source] = now.value[source];
        }
        return thought.worthOf(asked);
    }

    public long corner(int formula, int end) {
        Formula asked = formulaOf(formula);
        if (asked == null || end < LOW || end > HIGH) {
            return NO;
        }
        carryAsItIs(asked);
        if (thought.over) {
            return OVER;
        }
        long utmost = worthAtCorner(asked, 0);
        for (int corner = 1; corner < SOURCE_SETS; corner++) {
            // a source that does not stand in the formula makes no other corner
            if ((corner & ~asked.sources) == 0) {
                long worth = worthAtCorner(asked, corner);
                utmost = end == LOW ? Math.min(utmost, worth) : Math.max(utmost, worth);
            }
        }
        return utmost;
    }

    public int rises(int formula, int source) {
        Formula asked = formulaOf(formula);
        if (asked == null || !isSource(source)) {
            return NONE;
        }
        carryAsItIs(asked);
        return thought.over ? PAST : thought.changeBy(asked, source);
    }

    public long tight(int formula, int end) {
        Formula asked = formulaOf(formula);
        if (asked == null || end < LOW || end > HIGH) {
            return NO;
        }
        carryAsItIs(asked);
        if (thought.over) {
            return OVER;
        }
        int towardsLow = end == LOW ? RISES : FALLS;
        int towardsHigh = end == LOW ? FALLS : RISES;
        for (int source = 0; source < SOURCES; source++) {
            // changes are told by the spans carried above: moving a source here moves none of them
            int change = thought.changeBy(asked, source);
            if (change == towardsLow) {
                thought.stand(source, now.lowOf(source), now.lowOf(source));
            } else if (change == towardsHigh) {
                thought.stand(source, now.highOf(source), now.highOf(source));
            }
        }
        thought.carry(asked);
        return thought.told(end);
    }

    public long split(int formula, int source, int c, int end) {
        Formula asked = formulaOf(formula);
        if (asked == null || !isSource(source) || end < LOW || end > WIDTH) {
            return NO;
        }
        if (c < now.lowOf(source) || c > now.highOf(source)) {
            return NO;
        }
        carryAsItIs(asked);
        if (thought.over) {
            return OVER;
        }
        carrySplit(asked, source, c);
        return thought.told(end);
    }

    public long best(int formula, int what) {
        Formula asked = formulaOf(formula);
        if (asked == null || what < 0 || what > 2) {
            return NO;
        }
        carryAsItIs(asked);
        if (!thought.hasWidth()) {
            return OVER;
        }
        long without = thought.high - thought.low;
        long least = without;
        int bestSource = NONE;
        int bestPlace = 0;
        for (int source = 0; source < SOURCES; source++) {
            if (!asked.hasSource(source)) {
                continue;
            }
            for (int c = now.lowOf(source); c <= now.highOf(source); c++) {
                carrySplit(asked, source, c);
                long width = thought.high - thought.low;
                if (width < least) {
                    least = width;
                    bestSource = source;
                    bestPlace = c;
                }
            }
        }
        if (bestSource == NONE) {
            return NO_BEST;
        }
        return what == 0 ? bestSource : what == 1 ? bestPlace : without - least;
    }

    public int widest(int formula) {
        Formula asked = formulaOf(formula);
        if (asked == null) {
            return NONE;
        }
        carryAsItIs(asked);
        if (!thought.hasWidth()) {
            return PAST;
        }
        int widestSource = NOT;
        long least = 0;
        for (int source = 0; source < SOURCES; source++) {
            if (now.span[source] == 0) {
                continue;
            }
            thought.standAs(now);
            thought.stand(source, now.value[source], now.value[source]);
            thought.carry(asked);
            long width = thought.high - thought.low;
            if (widestSource == NOT || width < least) {
                least = width;
                widestSource = source;
            }
        }
        return widestSource;
    }

    public int again(int formula, long limit, int what) {
        Formula asked = formulaOf(formula);
        if (asked == null || what < 0 || what > 1) {
            return NONE;
        }
        carryAsItIs(asked);
        if (!thought.hasWidth()) {
            return PAST;
        }
        int bestSet = NOT;
        int leastCost = 0;
        for (int sources = 0; sources < SOURCE_SETS; sources++) {
            int cost = now.costOf(sources);
            if ((bestSet == NOT || cost < leastCost) && widthWithHalf(asked, sources) <= limit) {
                bestSet = sources;
                leastCost = cost;
            }
        }
        return bestSet == NOT || what == 0 ? bestSet : leastCost;
    }

    // ---- what fits, odds, plans

    public int fits(int formula, int source, long told, int what) {
        Formula asked = formulaOf(formula);
        if (asked == null || !isSource(source) || what < 0 || what > 1) {
            return NONE;
        }
        int fitting = 0;
        int least = NO_FIT;
        thought.standAs(now);
        for (int value = -MOST_VALUE; value <= MOST_VALUE; value++) {
            thought.stand(source, value - now.span[source], value + now.span[source]);
            thought.carry(asked);
            if (!thought.over && thought.low <= told && told <= thought.high) {
                if (fitting == 0) {
                    least = value;
                }
                fitting++;
            }
        }
        return what == 0 ? fitting : least;
    }

    public long odds(int formula, int seed, int m, long low, long high, int part) {
        Formula asked = formulaOf(formula);
        if (asked == null || m < 1 || m > MOST_SEEDS || part < 0 || part > 1) {
            return NO;
        }
        carryAsItIs(asked);
        if (thought.over) {
            return OVER;
        }
        int inside = 0;
        for (int drawn = 0; drawn < m; drawn++) {
            thought.drawBy(seed + drawn, now);
            long worth = thought.worthOf(asked);
            if (low <= worth && worth <= high) {
                inside++;
            }
        }
        int common = greatestCommon(inside, m);
        return part == 0 ? inside / common : m / common;
    }

    public int plan(int source, int what, int v) {
        if (source == -1) {
            now.planCount = 0;
            return 0;
        }
        if (!isSource(source) || what < VALUE || what > HALVINGS) {
            return NONE;
        }
        boolean within = what == HALVINGS ? v >= 0 && v <= MOST_HALVINGS : mayBecome(what, v);
        if (!within) {
            return BAD;
        }
        if (now.planCount >= PLAN_ROWS) {
            return FULL;
        }
        now.planSource[now.planCount] = source;
        now.planWhat[now.planCount] = what;
        now.planV[now.planCount] = v;
        now.planCount++;
        return now.planCount;
    }

    public long ends(int formula) {
        Formula asked = formulaOf(formula);
        if (asked == null) {
            return NO;
        }
        for (int source = 0; source < SOURCES; source++) {
            int value = now.value[source];
            int span = now.span[source];
            for (int row = 0; row < now.planCount; row++) {
                if (now.planSource[row] == source) {
                    value = now.planWhat[row] == VALUE ? now.planV[row] : value;
                    span = now.spanBehind(row, span);
                }
            }
            thought.stand(source, value - span, value + span);
        }
        thought.carry(asked);
        return thought.told(WIDTH);
    }

    // ---- lists, the image

    public int judge(int list) {
        if (!isList(list)) {
            return NONE;
        }
        if (rowLength[list] == NOTHING) {
            return NOTHING;
        }
        for (int i = 0; i < rowLength[list]; i++) {
            Formula asked = formulaOf(i);
            if (asked == null) {
                return i;
            }
            carryAsItIs(asked);
            if (!thought.hasWidth() || thought.high - thought.low != rows[list][i]) {
                return i;
            }
        }
        return ALL_AS_TOLD;
    }

    public int list(int list, int n) {
        if (!isList(list)) {
            return NONE;
        }
        if (n > LIST_PLACES) {
            return BAD;
        }
        if (n < 0) {
            return BELOW;
        }
        Arrays.fill(rows[list], 0);
        rowLength[list] = n;
        return 1;
    }

    public int put(int list, int i, long v) {
        if (!isList(list)) {
            return NONE;
        }
        if (rowLength[list] == NOTHING) {
            return NOTHING;
        }
        if (i < 0 || i >= rowLength[list]) {
            return BEYOND;
        }
        rows[list][i] = v;
        return 1;
    }

    public long get(int list, int i) {
        // a list that holds nothing has a length below 0, so no place of it is there
        if (!isList(list) || i < 0 || i >= rowLength[list]) {
            return NO;
        }
        return rows[list][i];
    }

    public int image() {
        taken.becomeLike(now);
        imageTaken = true;
        return now.formulaCount;
    }

    public int undo() {
        if (!imageTaken) {
            return STATE;
        }
        now.becomeLike(taken);
        return now.formulaCount;
    }

    public int count(int what) {
        switch (what) {
            case 0:
                return now.formulaCount;
            case 1:
                return tape.length;
            case 2:
                return now.planCount;
            case 3:
                return formulasOver();
            case 4:
                return sourcesWithSpan();
            default:
                return BAD;
        }
    }

    // ---- what the calls share

    private static boolean isSource(int source) {
        return source >= 0 && source < SOURCES;
    }

    private static boolean isList(int list) {
        return list >= 0 && list < LISTS;
    }

    private static boolean mayBecome(int what, int v) {
        switch (what) {
            case VALUE:
                return v >= -MOST_VALUE && v <= MOST_VALUE;
            case SPAN:
                return v >= 0 && v <= MOST_SPAN;
            default:
                return v >= 0 && v <= MOST_COST;
        }
    }

    /** The formula of that number, or null. */
    private Formula formulaOf(int number) {
        return number < 0 || number >= now.formulaCount ? null : now.formulas[number];
    }

    private void carryAsItIs(Formula asked) {
        thought.standAs(now);
        thought.carry(asked);
    }

    private void keepWay(Formula asked) {
        wayLength = 0;
        int part = asked.size - 1;
        while (part >= 0 && wayLength < TAPE_BYTES) {
            wayPlace[wayLength] = asked.place[part];
            wayLength++;
            part = thought.firstOverOf(asked, part);
        }
    }

    /** Bits of the corner: a source stands at its high end. */
    private long worthAtCorner(Formula asked, int corner) {
        for (int source = 0; source < SOURCES; source++) {
            boolean atHigh = (corner >> source & 1) == 1;
            thought.at[source] = atHigh ? now.highOf(source) : now.lowOf(source);
        }
        return thought.worthOf(asked);
    }

    private void carrySplit(Formula asked, int source, int c) {
        thought.stand(source, now.lowOf(source), c);
        thought.carry(asked);
        long low = thought.low;
        long high = thought.high;
        thought.stand(source, c, now.highOf(source));
        thought.carry(asked);
        thought.low = Math.min(low, thought.low);
        thought.high = Math.max(high, thought.high);
        thought.stand(source, now.lowOf(source), now.highOf(source));
    }

    /** Less wide spans make no formula over, so a width that was there stays one. */
    private long widthWithHalf(Formula asked, int sources) {
        for (int source = 0; source < SOURCES; source++) {
            boolean half = (sources >> source & 1) == 1;
            int span = half ? now.span[source] / 2 : now.span[source];
            thought.stand(source, now.value[source] - span, now.value[source] + span);
        }
        thought.carry(asked);
        return thought.high - thought.low;
    }

    /** The greatest number that divides both, of one that is 0 or more and one that is 1 or more. */
    private static int greatestCommon(int one, int other) {
        for (int divisor = other; divisor > 1; divisor--) {
            if (one % divisor == 0 && other % divisor == 0) {
                return divisor;
            }
        }
        return 1;
    }

    private int formulasOver() {
        int many = 0;
        for (int i = 0; i < now.formulaCount; i++) {
            Formula asked = formulaOf(i);
            if (asked != null) {
                carryAsItIs(asked);
                many += thought.over ? 1 : 0;
            }
        }
        return many;
    }

    private int sourcesWithSpan() {
        int many = 0;
        for (int source = 0; source < SOURCES; source++) {
            many += now.span[source] > 0 ? 1 : 0;
        }
        return many;
    }

    /** All that an image keeps: sources, formulas, the plan. */
    private static final class State {
        final int[] value = new int[SOURCES];
        final int[] span = new int[SOURCES];
        final int[] cost = new int[SOURCES];
        final Formula[] formulas = new Formula[FORMULAS];
        int formulaCount = 0;
        final int[] planSource = new int[PLAN_ROWS];
        final int[] planWhat = new int[PLAN_ROWS];
        final int[] planV = new int[PLAN_ROWS];
        int planCount = 0;

        State() {
            Arrays.fill(cost, 1);
        }

        int[] rowOf(int what) {
            return what == VALUE ? value : what == SPAN ? span : cost;
        }

        int lowOf(int source) {
            return value[source] - span[source];
        }

        int highOf(int source) {
            return value[source] + span[source];
        }

        int costOf(int sources) {
            int sum = 0;
            for (int source = 0; source < SOURCES; source++) {
                sum += (sources >> source & 1) == 1 ? cost[source] : 0;
            }
            return sum;
        }

        /** What a row of the plan makes of a span of its source. */
        int spanBehind(int row, int span) {
            switch (planWhat[row]) {
                case SPAN:
                    return planV[row];
                case HALVINGS:
                    // no span is below 0, so a shift is a half, cut, as often
                    return span >> planV[row];
                default:
                    return span;
            }
        }

        /** Formulas never change once they are read, so both may hold the same ones. */
        void becomeLike(State other) {
            System.arraycopy(other.value, 0, value, 0, SOURCES);
            System.arraycopy(other.span, 0, span, 0, SOURCES);
            System.arraycopy(other.cost, 0, cost, 0, SOURCES);
            for (int i = 0; i < FORMULAS; i++) {
                formulas[i] = other.formulas[i];
            }
            formulaCount = other.formulaCount;
            System.arraycopy(other.planSource, 0, planSource, 0, PLAN_ROWS);
            System.arraycopy(other.planWhat, 0, planWhat, 0, PLAN_ROWS);
            System.arraycopy(other.planV, 0, planV, 0, PLAN_ROWS);
            planCount = other.planCount;
        }
    }

    /**
     * A formula as it was read. Its parts stand in the order in which they end: what a part is made
     * of stands ahead of it, the whole formula last.
     */
    private static final class Formula {
        final int size;
        final int[] kind;
        /** Of a letter or a number the byte it begins with, else that of the sign. */
        final int[] place;
        /** What a part is made of; -F is made of F twice, a letter or a number of itself. */
        final int[] first;
        final int[] second;
        /** Of a letter its source, of a number what it is worth. */
        final int[] worth;
        final int sources;
        final int depth;
        final int unlike;
        final int mostAlike;

        Formula(Tape tape) {
            size = tape.size;
            kind = Arrays.copyOf(tape.kind, size);
            place = Arrays.copyOf(tape.place, size);
            first = Arrays.copyOf(tape.first, size);
            second = Arrays.copyOf(tape.second, size);
            worth = Arrays.copyOf(tape.worth, size);
            sources = sourcesIn(tape);
            depth = depthOf(tape);
            int[] likeness = likenessIn(tape);
            unlike = unlikeIn(likeness);
            mostAlike = mostAlikeIn(likeness);
        }

        boolean hasSource(int source) {
            return (sources >> source & 1) == 1;
        }

        static boolean isMade(int kindOfPart) {
            return kindOfPart > NUMBER;
        }

        /** The order in which parts end tells how they are made, so it is enough to compare it. */
        boolean isLike(Formula other) {
            if (size != other.size) {
                return false;
            }
            for (int part = 0; part < size; part++) {
                if (kind[part] != other.kind[part] || worth[part] != other.worth[part]) {
                    return false;
                }
            }
            return true;
        }

        private static int sourcesIn(Tape tape) {
            int bits = 0;
            for (int part = 0; part < tape.size; part++) {
                if (tape.kind[part] == LETTER) {
                    bits |= 1 << tape.worth[part];
                }
            }
            return bits;
        }

        private static int depthOf(Tape tape) {
            int[] depths = new int[tape.size];
            int deepest = 0;
            for (int part = 0; part < tape.size; part++) {
                if (isMade(tape.kind[part])) {
                    depths[part] = 1 + Math.max(depths[tape.first[part]], depths[tape.second[part]]);
                }
                deepest = Math.max(deepest, depths[part]);
            }
            return deepest;
        }

        /** Of each part the first one that is alike. */
        private static int[] likenessIn(Tape tape) {
            int[] likeness = new int[tape.size];
            for (int part = 0; part < tape.size; part++) {
                int like = 0;
                while (like < part && !areAlike(tape, likeness, like, part)) {
                    like++;
                }
                likeness[part] = like;
            }
            return likeness;
        }

        /** Likeness must be known of all that the two are made of. */
        private static boolean areAlike(Tape tape, int[] likeness, int one, int other) {
            if (tape.kind[one] != tape.kind[other] || tape.worth[one] != tape.worth[other]) {
                return false;
            }
            return !isMade(tape.kind[one])
                || likeness[tape.first[one]] == likeness[tape.first[other]]
                && likeness[tape.second[one]] == likeness[tape.second[other]];
        }

        private static int unlikeIn(int[] likeness) {
            int many = 0;
            for (int part = 0; part < likeness.length; part++) {
                many += likeness[part] == part ? 1 : 0;
            }
            return many;
        }

        private static int mostAlikeIn(int[] likeness) {
            int[] alikeTo = new int[likeness.length];
            int most = 0;
            for (int like : likeness) {
                alikeTo[like]++;
                most = Math.max(most, alikeTo[like]);
            }
            return most;
        }
    }

    /** The tape, and the reading of a formula from it. */
    private static final class Tape {
        private static final int FAULTY = -1;

        final int[] bytes = new int[TAPE_BYTES];
        int length = 0;
        /** The byte that reading has come to; behind a fault the one at fault. */
        int at = 0;
        final int[] kind = new int[TAPE_BYTES];
        final int[] place = new int[TAPE_BYTES];
        final int[] first = new int[TAPE_BYTES];
        final int[] second = new int[TAPE_BYTES];
        final int[] worth = new int[TAPE_BYTES];
        int size = 0;

        boolean append(int letter) {
            if (length >= TAPE_BYTES) {
                return false;
            }
            bytes[length] = letter;
            length++;
            return true;
        }

        /** The formula that all of the tape tells, or null, if there is a fault. */
        Formula readFormula() {
            at = 0;
            size = 0;
            int whole = readSum(0);
            return whole == FAULTY || at < length ? null : new Formula(this);
        }

        /** The byte that reading has come to, or 0, which is none, at the end. */
        private int here() {
            return at >= 0 && at < length ? bytes[at] : 0;
        }

        private int readSum(int open) {
            int part = readProduct(open);
            for (int joined = 0; joined < TAPE_BYTES; joined++) {
                int sign = here();
                if (part == FAULTY || sign != '+' && sign != '-') {
                    return part;
                }
                int signAt = at;
                at++;
                int next = readProduct(open);
                part = join(sign == '+' ? SUM : DIFFERENCE, signAt, part, next);
            }
            return part;
        }

        private int readProduct(int open) {
            int part = readFactor(open);
            for (int joined = 0; joined < TAPE_BYTES; joined++) {
                if (part == FAULTY || here() != '*') {
                    return part;
                }
                int signAt = at;
                at++;
                int next = readFactor(open);
                part = join(PRODUCT, signAt, part, next);
            }
            return part;
        }

        /** Open are that many of ( and of - ahead of a factor. */
        private int readFactor(int open) {
            int sign = here();
            if (sign >= 'a' && sign <= 'f') {
                at++;
                return add(LETTER, at - 1, sign - 'a');
            }
            if (isFigure(sign)) {
                return readNumber();
            }
            if (open >= MOST_OPEN || sign != '-' && sign != '(') {
                return FAULTY;
            }
            int signAt = at;
            at++;
            if (sign == '-') {
                int inner = readFactor(open + 1);
                return join(LESS, signAt, inner, inner);
            }
            int inner = readSum(open + 1);
            if (inner == FAULTY || here() != ')') {
                return FAULTY;
            }
            at++;
            return inner;
        }

        private int readNumber() {
            int begin = at;
            int number = 0;
            for (int figures = 0; figures < MOST_FIGURES && isFigure(here()); figures++) {
                number = number * 10 + here() - '0';
                at++;
            }
            return add(NUMBER, begin, number);
        }

        private static boolean isFigure(int letter) {
            return letter >= '0' && letter <= '9';
        }

        private int join(int kindOfPart, int signAt, int one, int other) {
            if (one == FAULTY || other == FAULTY) {
                return FAULTY;
            }
            int part = add(kindOfPart, signAt, 0);
            if (part != FAULTY) {
                first[part] = one;
                second[part] = other;
            }
            return part;
        }

        private int add(int kindOfPart, int placeOfPart, int worthOfPart) {
            // every part has a byte of its own, so there is always room
            if (size >= TAPE_BYTES) {
                return FAULTY;
            }
            int part = size;
            size++;
            kind[part] = kindOfPart;
            place[part] = placeOfPart;
            worth[part] = worthOfPart;
            first[part] = part;
            second[part] = part;
            return part;
        }
    }

    /** Spans side by side, each of which may be over: then its ends tell nothing. */
    private static final class SpanRow {
        final long[] low;
        final long[] high;
        final boolean[] over;

        SpanRow(int size) {
            low = new long[size];
            high = new long[size];
            over = new boolean[size];
        }

        void fromTo(int i, long from, long to) {
            low[i] = from;
            high[i] = to;
            over[i] = false;
        }

        void less(int i, SpanRow of, int one) {
            // if a high end has no negative, neither has its low end
            over[i] = of.over[one] || of.low[one] == Long.MIN_VALUE;
            long from = -of.high[one];
            high[i] = -of.low[one];
            low[i] = from;
        }

        void sum(int i, SpanRow of, int one, SpanRow with, int other) {
            over[i] = of.over[one] || with.over[other]
                || !sumFits(of.low[one], with.low[other]) || !sumFits(of.high[one], with.high[other]);
            low[i] = of.low[one] + with.low[other];
            high[i] = of.high[one] + with.high[other];
        }

        void difference(int i, SpanRow of, int one, SpanRow with, int other) {
            over[i] = of.over[one] || with.over[other]
                || !differenceFits(of.low[one], with.high[other])
                || !differenceFits(of.high[one], with.low[other]);
            low[i] = of.low[one] - with.high[other];
            high[i] = of.high[one] - with.low[other];
        }

        void product(int i, SpanRow of, int one, SpanRow with, int other) {
            long a = of.low[one];
            long b = of.high[one];
            long c = with.low[other];
            long d = with.high[other];
            over[i] = of.over[one] || with.over[other]
                || !productFits(a, c) || !productFits(a, d) || !productFits(b, c) || !productFits(b, d);
            low[i] = Math.min(Math.min(a * c, a * d), Math.min(b * c, b * d));
            high[i] = Math.max(Math.max(a * c, a * d), Math.max(b * c, b * d));
        }

        static boolean sumFits(long a, long b) {
            return b >= 0 ? a <= Long.MAX_VALUE - b : a >= Long.MIN_VALUE - b;
        }

        static boolean differenceFits(long a, long b) {
            return b >= 0 ? a >= Long.MIN_VALUE + b : a <= Long.MAX_VALUE + b;
        }

        static boolean productFits(long a, long b) {
            boolean bothSmall = a == (int) a && b == (int) b;
            if (bothSmall || a == 0) {
                return true;
            }
            // -1 stands apart: the product of it and the least long comes back by the division
            return a == -1 ? b != Long.MIN_VALUE : a * b / a == b;
        }
    }

    /** What would be so of a formula, were the sources to stand as they do here. */
    private static final class Thought {
        final int[] from = new int[SOURCES];
        final int[] to = new int[SOURCES];
        /** What the latest formula carried spans in all. */
        boolean over = false;
        long low = 0;
        long high = 0;
        /** What each source is worth, where a formula is to be worth something. */
        final int[] at = new int[SOURCES];
        final SpanRow spans = new SpanRow(TAPE_BYTES);
        final SpanRow changes = new SpanRow(TAPE_BYTES);
        final SpanRow shares = new SpanRow(2);
        final long[] worths = new long[TAPE_BYTES];

        void standAs(State state) {
            for (int source = 0; source < SOURCES; source++) {
                stand(source, state.lowOf(source), state.highOf(source));
            }
        }

        void stand(int source, int lowEnd, int highEnd) {
            from[source] = lowEnd;
            to[source] = highEnd;
        }

        void carry(Formula asked) {
            for (int part = 0; part < asked.size; part++) {
                carryPart(asked, part);
            }
            int whole = asked.size - 1;
            over = spans.over[whole];
            low = spans.low[whole];
            high = spans.high[whole];
        }

        private void carryPart(Formula asked, int part) {
            int one = asked.first[part];
            int other = asked.second[part];
            int worth = asked.worth[part];
            switch (asked.kind[part]) {
                case LETTER:
                    spans.fromTo(part, from[worth], to[worth]);
                    break;
                case NUMBER:
                    spans.fromTo(part, worth, worth);
                    break;
                case LESS:
                    spans.less(part, spans, one);
                    break;
                case SUM:
                    spans.sum(part, spans, one, spans, other);
                    break;
                case DIFFERENCE:
                    spans.difference(part, spans, one, spans, other);
                    break;
                default:
                    spans.product(part, spans, one, spans, other);
                    break;
            }
        }

        boolean hasWidth() {
            return !over && SpanRow.differenceFits(high, low);
        }

        long told(int end) {
            if (over || end == WIDTH && !hasWidth()) {
                return OVER;
            }
            return end == LOW ? low : end == HIGH ? high : high - low;
        }

        /** The first part that the part is made of and that is over, or NONE. */
        int firstOverOf(Formula asked, int part) {
            if (!Formula.isMade(asked.kind[part])) {
                return NONE;
            }
            if (spans.over[asked.first[part]]) {
                return asked.first[part];
            }
            return spans.over[asked.second[part]] ? asked.second[part] : NONE;
        }

        /** By the spans of the parts as the formula was carried last. */
        int changeBy(Formula asked, int source) {
            for (int part = 0; part < asked.size; part++) {
                changePart(asked, part, source);
            }
            int whole = asked.size - 1;
            if (changes.over[whole]) {
                return UNTOLD;
            }
            if (changes.low[whole] == 0 && changes.high[whole] == 0) {
                return FLAT;
            }
            if (changes.low[whole] >= 0) {
                return RISES;
            }
            return changes.high[whole] <= 0 ? FALLS : UNTOLD;
        }

        private void changePart(Formula asked, int part, int source) {
            int one = asked.first[part];
            int other = asked.second[part];
            switch (asked.kind[part]) {
                case LETTER:
                    int change = asked.worth[part] == source ? 1 : 0;
                    changes.fromTo(part, change, change);
                    break;
                case NUMBER:
                    changes.fromTo(part, 0, 0);
                    break;
                case LESS:
                    changes.less(part, changes, one);
                    break;
                case SUM:
                    changes.sum(part, changes, one, changes, other);
                    break;
                case DIFFERENCE:
                    changes.difference(part, changes, one, changes, other);
                    break;
                default:
                    shares.product(0, changes, one, spans, other);
                    shares.product(1, spans, one, changes, other);
                    changes.sum(part, shares, 0, shares, 1);
                    break;
            }
        }

        /** Only of a formula that is not over: what its parts are worth lies in their spans. */
        long worthOf(Formula asked) {
            for (int part = 0; part < asked.size; part++) {
                worths[part] = worthOfPart(asked, part);
            }
            return worths[asked.size - 1];
        }

        private long worthOfPart(Formula asked, int part) {
            int one = asked.first[part];
            int other = asked.second[part];
            switch (asked.kind[part]) {
                case LETTER:
                    return at[asked.worth[part]];
                case NUMBER:
                    return asked.worth[part];
                case LESS:
                    return -worths[one];
                case SUM:
                    return worths[one] + worths[other];
                case DIFFERENCE:
                    return worths[one] - worths[other];
                default:
                    return worths[one] * worths[other];
            }
        }

        void drawBy(int seed, State state) {
            int z = seed;
            for (int source = 0; source < SOURCES; source++) {
                z = z * 1103515245 + 12345;
                int below = 2 * state.span[source] + 1;
                at[source] = state.lowOf(source) + (z & Integer.MAX_VALUE) / 65536 % below;
            }
        }
    }
}
