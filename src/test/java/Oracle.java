import java.math.BigInteger;
import java.util.ArrayList;
import java.util.HashMap;
import java.util.List;
import java.util.Map;

/**
 * The document, written a second time and in another way: trees, big numbers, an automaton for the
 * tape. Random runs hold SpanKeeper against it.
 */
final class Oracle {
    static final long NO = Long.MIN_VALUE;
    static final long OVER = Long.MIN_VALUE + 1;

    /** op: v a letter, n a number, ~ for -F, else the sign. */
    record Node(char op, int number, int place, Node one, Node other) {
        boolean leaf() {
            return op == 'v' || op == 'n';
        }

        List<Node> made() {
            return leaf() ? List.of() : op == '~' ? List.of(one) : List.of(one, other);
        }

        String shape() {
            if (leaf()) {
                return op + ":" + number;
            }
            return op + "[" + one.shape() + (op == '~' ? "" : "," + other.shape()) + "]";
        }

        int depth() {
            int deepest = -1;
            for (Node part : made()) {
                deepest = Math.max(deepest, part.depth());
            }
            return deepest + 1;
        }

        void gather(List<Node> all) {
            all.add(this);
            for (Node part : made()) {
                part.gather(all);
            }
        }
    }

    record Ends(BigInteger low, BigInteger high) {
    }

    private record Row(int source, int what, int v) {
    }

    private int[][] sources = {{0, 0, 0, 0, 0, 0}, {0, 0, 0, 0, 0, 0}, {1, 1, 1, 1, 1, 1}};
    private List<Node> formulas = new ArrayList<>();
    private List<Row> rows = new ArrayList<>();
    private final StringBuilder tape = new StringBuilder();
    private List<Integer> wayFromDeepest = new ArrayList<>();
    private final long[][] lists = new long[4][];
    private int[][] imageSources = null;
    private List<Node> imageFormulas = null;
    private List<Row> imageRows = null;

    // ---- spans in thought: lows and highs are what the six sources stand at

    private int[] lows() {
        int[] ends = new int[6];
        for (int s = 0; s < 6; s++) {
            ends[s] = sources[0][s] - sources[1][s];
        }
        return ends;
    }

    private int[] highs() {
        int[] ends = new int[6];
        for (int s = 0; s < 6; s++) {
            ends[s] = sources[0][s] + sources[1][s];
        }
        return ends;
    }

    private static boolean isLong(BigInteger n) {
        return n.bitLength() <= 63;
    }

    private static Ends ifLong(BigInteger low, BigInteger high) {
        return isLong(low) && isLong(high) ? new Ends(low, high) : null;
    }

    private static Ends ends(long low, long high) {
        return new Ends(BigInteger.valueOf(low), BigInteger.valueOf(high));
    }

    private static Ends times(Ends one, Ends other) {
        BigInteger least = null;
        BigInteger greatest = null;
        for (BigInteger x : List.of(one.low, one.high)) {
            for (BigInteger y : List.of(other.low, other.high)) {
                BigInteger z = x.multiply(y);
                if (!isLong(z)) {
                    return null;
                }
                least = least == null ? z : least.min(z);
                greatest = greatest == null ? z : greatest.max(z);
            }
        }
        return new Ends(least, greatest);
    }

    private static Ends joined(char op, Ends one, Ends other) {
        switch (op) {
            case '~':
                return ifLong(one.high.negate(), one.low.negate());
            case '+':
                return ifLong(one.low.add(other.low), one.high.add(other.high));
            case '-':
                return ifLong(one.low.subtract(other.high), one.high.subtract(other.low));
            default:
                return times(one, other);
        }
    }

    /** Null: over. */
    private static Ends spanned(Node part, int[] lows, int[] highs) {
        if (part.op == 'v') {
            return ends(lows[part.number], highs[part.number]);
        }
        if (part.op == 'n') {
            return ends(part.number, part.number);
        }
        Ends one = spanned(part.one, lows, highs);
        Ends other = part.op == '~' ? one : spanned(part.other, lows, highs);
        return one == null || other == null ? null : joined(part.op, one, other);
    }

    private Ends spanned(Node part) {
        return spanned(part, lows(), highs());
    }

    private static BigInteger width(Ends ends) {
        if (ends == null) {
            return null;
        }
        BigInteger width = ends.high.subtract(ends.low);
        return isLong(width) ? width : null;
    }

    private static BigInteger worth(Node part, int[] at) {
        switch (part.op) {
            case 'v':
                return BigInteger.valueOf(at[part.number]);
            case 'n':
                return BigInteger.valueOf(part.number);
            case '~':
                return worth(part.one, at).negate();
            case '+':
                return worth(part.one, at).add(worth(part.other, at));
            case '-':
                return worth(part.one, at).subtract(worth(part.other, at));
            default:
                return worth(part.one, at).multiply(worth(part.other, at));
        }
    }

    /** Null: some number is no long. */
    private Ends change(Node part, int source) {
        if (part.leaf()) {
            int one = part.op == 'v' && part.number == source ? 1 : 0;
            return ends(one, one);
        }
        Ends one = change(part.one, source);
        if (one == null) {
            return null;
        }
        if (part.op == '~') {
            return joined('~', one, null);
        }
        Ends other = change(part.other, source);
        if (other == null) {
            return null;
        }
        if (part.op != '*') {
            return joined(part.op, one, other);
        }
        Ends ahead = times(one, spanned(part.other));
        Ends behind = times(spanned(part.one), other);
        return ahead == null || behind == null ? null : joined('+', ahead, behind);
    }

    private int changes(Node whole, int source) {
        Ends change = change(whole, source);
        if (change == null) {
            return 3;
        }
        if (change.low.signum() == 0 && change.high.signum() == 0) {
            return 0;
        }
        return change.low.signum() >= 0 ? 1 : change.high.signum() <= 0 ? 2 : 3;
    }

    private static long told(Ends ends, int end) {
        if (ends == null || end == 2 && width(ends) == null) {
            return OVER;
        }
        return (end == 0 ? ends.low : end == 1 ? ends.high : width(ends)).longValueExact();
    }

    private Node asked(int formula) {
        return formula >= 0 && formula < formulas.size() ? formulas.get(formula) : null;
    }

    private static boolean within(int n, int least, int most) {
        return n >= least && n <= most;
    }

    // ---- sources, formulas

    private static boolean may(int what, int v) {
        return what == 0 ? within(v, -99, 99) : within(v, 0, what == 1 ? 20 : 99);
    }

    int set(int source, int what, int v) {
        if (!within(source, 0, 5) || !within(what, 0, 2)) {
            return -1000;
        }
        if (!may(what, v)) {
            return -1001;
        }
        int was = sources[what][source];
        sources[what][source] = v;
        return was;
    }

    int of(int source, int what) {
        if (!within(source, 0, 5) || !within(what, 0, 4)) {
            return -1000;
        }
        return what == 3 ? lows()[source] : what == 4 ? highs()[source] : sources[what][source];
    }

    int feed(int letter) {
        if (!within(letter, 1, 127)) {
            return -2;
        }
        if (tape.length() == 60) {
            return -4;
        }
        tape.append((char) letter);
        return tape.length();
    }

    int formula() {
        String text = tape.toString();
        tape.setLength(0);
        int fault = fault(text);
        if (fault >= 0) {
            return -100 - fault;
        }
        if (formulas.size() == 6) {
            return -4;
        }
        formulas.add(tree(text, 0, text.length()));
        return formulas.size() - 1;
    }

    /** The stack holds what is open; -1: the text tells a formula. */
    private static int fault(String text) {
        StringBuilder open = new StringBuilder();
        boolean factorDue = true;
        int figures = 0;
        for (int i = 0; i < text.length(); i++) {
            char c = text.charAt(i);
            if (factorDue) {
                if ((c == '(' || c == '-') && open.length() < 6) {
                    open.append(c);
                    continue;
                }
                if (c < 'a' || c > 'f') {
                    if (c < '0' || c > '9') {
                        return i;
                    }
                    figures = 1;
                }
                factorDue = false;
            } else if (c >= '0' && c <= '9' && figures > 0 && figures < 4) {
                figures++;
                continue;
            } else if (c == '+' || c == '-' || c == '*') {
                factorDue = true;
                figures = 0;
            } else if (c == ')' && open.length() > 0) {
                open.setLength(open.length() - 1);
                figures = 0;
            } else {
                return i;
            }
            if (!factorDue || c == ')') {
                while (open.length() > 0 && open.charAt(open.length() - 1) == '-') {
                    open.setLength(open.length() - 1);
                }
            }
        }
        return factorDue || open.length() > 0 ? text.length() : -1;
    }

    /** Cuts a sound text at the last sign that binds least. */
    private static Node tree(String text, int from, int to) {
        int sums = NONE_AT;
        int products = NONE_AT;
        int open = 0;
        for (int i = from; i < to; i++) {
            char c = text.charAt(i);
            open += c == '(' ? 1 : c == ')' ? -1 : 0;
            boolean betweenFactors = i > from && "+-*(".indexOf(text.charAt(i - 1)) < 0;
            if (open == 0 && betweenFactors && (c == '+' || c == '-')) {
                sums = i;
            }
            if (open == 0 && c == '*') {
                products = i;
            }
        }
        int cut = sums != NONE_AT ? sums : products;
        if (cut != NONE_AT) {
            return new Node(text.charAt(cut), 0, cut, tree(text, from, cut), tree(text, cut + 1, to));
        }
        char c = text.charAt(from);
        if (c == '-') {
            return new Node('~', 0, from, tree(text, from + 1, to), null);
        }
        if (c == '(') {
            return tree(text, from + 1, to - 1);
        }
        if (c >= 'a') {
            return new Node('v', c - 'a', from, null, null);
        }
        return new Node('n', Integer.parseInt(text.substring(from, to)), from, null, null);
    }

    private static final int NONE_AT = -1;

    int drop() {
        if (formulas.isEmpty()) {
            return -3;
        }
        formulas.remove(formulas.size() - 1);
        return formulas.size();
    }

    int parts(int formula, int what) {
        Node whole = asked(formula);
        if (whole == null || !within(what, 0, 4)) {
            return -1;
        }
        List<Node> all = new ArrayList<>();
        whole.gather(all);
        Map<String, Integer> classes = new HashMap<>();
        int bits = 0;
        int most = 0;
        for (Node part : all) {
            most = Math.max(most, classes.merge(part.shape(), 1, Integer::sum));
            bits |= part.op == 'v' ? 1 << part.number : 0;
        }
        int[] answers = {all.size(), classes.size(), most, bits, whole.depth()};
        return answers[what];
    }

    int alike(int one, int other) {
        if (asked(one) == null || asked(other) == null) {
            return -1;
        }
        return asked(one).shape().equals(asked(other).shape()) ? 1 : 0;
    }

    // ---- spans

    long span(int formula, int end) {
        Node whole = asked(formula);
        if (whole == null || !within(end, 0, 2)) {
            return NO;
        }
        Ends ends = spanned(whole);
        if (ends == null) {
            wayFromDeepest = new ArrayList<>();
            for (Node part = whole; part != null; part = firstOver(part)) {
                wayFromDeepest.add(0, part.place);
            }
        }
        return told(ends, end);
    }

    private Node firstOver(Node part) {
        for (Node made : part.made()) {
            if (spanned(made) == null) {
                return made;
            }
        }
        return null;
    }

    int way(int k) {
        if (k == -1) {
            return wayFromDeepest.size();
        }
        return within(k, 0, wayFromDeepest.size() - 1) ? wayFromDeepest.get(k) : -1;
    }

    long exact(int formula) {
        Node whole = asked(formula);
        if (whole == null) {
            return NO;
        }
        return spanned(whole) == null ? OVER : worth(whole, sources[0]).longValueExact();
    }

    long corner(int formula, int end) {
        Node whole = asked(formula);
        if (whole == null || !within(end, 0, 1)) {
            return NO;
        }
        if (spanned(whole) == null) {
            return OVER;
        }
        BigInteger least = null;
        BigInteger greatest = null;
        for (int way = 0; way < 64; way++) {
            int[] at = lows();
            for (int s = 0; s < 6; s++) {
                at[s] = (way & 1 << s) == 0 ? at[s] : highs()[s];
            }
            BigInteger worth = worth(whole, at);
            least = least == null ? worth : least.min(worth);
            greatest = greatest == null ? worth : greatest.max(worth);
        }
        return (end == 0 ? least : greatest).longValueExact();
    }

    int rises(int formula, int source) {
        Node whole = asked(formula);
        if (whole == null || !within(source, 0, 5)) {
            return -1;
        }
        return spanned(whole) == null ? -6 : changes(whole, source);
    }

    long tight(int formula, int end) {
        Node whole = asked(formula);
        if (whole == null || !within(end, 0, 1)) {
            return NO;
        }
        if (spanned(whole) == null) {
            return OVER;
        }
        int[] lows = lows();
        int[] highs = highs();
        for (int s = 0; s < 6; s++) {
            int change = changes(whole, s);
            if (change == 1 && end == 0 || change == 2 && end == 1) {
                highs[s] = lows[s];
            } else if (change == 1 || change == 2) {
                lows[s] = highs[s];
            }
        }
        return told(spanned(whole, lows, highs), end);
    }

    private Ends splitAt(Node whole, int source, int c) {
        int[] lows = lows();
        int[] highs = highs();
        highs[source] = c;
        Ends one = spanned(whole, lows, highs);
        lows[source] = c;
        highs[source] = highs()[source];
        Ends other = spanned(whole, lows, highs);
        return new Ends(one.low.min(other.low), one.high.max(other.high));
    }

    long split(int formula, int source, int c, int end) {
        Node whole = asked(formula);
        if (whole == null || !within(source, 0, 5) || !within(end, 0, 2)
            || !within(c, lows()[source], highs()[source])) {
            return NO;
        }
        return spanned(whole) == null ? OVER : told(splitAt(whole, source, c), end);
    }

    long best(int formula, int what) {
        Node whole = asked(formula);
        if (whole == null || !within(what, 0, 2)) {
            return NO;
        }
        BigInteger without = width(spanned(whole));
        if (without == null) {
            return OVER;
        }
        long[] found = null;
        BigInteger least = without;
        for (int s = 0; s < 6; s++) {
            for (int c = lows()[s]; c <= highs()[s]; c++) {
                BigInteger width = width(splitAt(whole, s, c));
                if (width.compareTo(least) < 0) {
                    least = width;
                    found = new long[] {s, c, without.subtract(width).longValueExact()};
                }
            }
        }
        return found == null ? -1000 : found[what];
    }

    private BigInteger widthBySpans(Node whole, int[] values, int[] spans) {
        int[] lows = new int[6];
        int[] highs = new int[6];
        for (int s = 0; s < 6; s++) {
            lows[s] = values[s] - spans[s];
            highs[s] = values[s] + spans[s];
        }
        return width(spanned(whole, lows, highs));
    }

    int widest(int formula) {
        Node whole = asked(formula);
        if (whole == null) {
            return -1;
        }
        if (width(spanned(whole)) == null) {
            return -6;
        }
        int found = -5;
        BigInteger least = null;
        for (int s = 5; s >= 0; s--) {
            int[] spans = sources[1].clone();
            if (spans[s] > 0) {
                spans[s] = 0;
                BigInteger width = widthBySpans(whole, sources[0], spans);
                if (least == null || width.compareTo(least) <= 0) {
                    least = width;
                    found = s;
                }
            }
        }
        return found;
    }

    int again(int formula, long limit, int what) {
        Node whole = asked(formula);
        if (whole == null || !within(what, 0, 1)) {
            return -1;
        }
        if (width(spanned(whole)) == null) {
            return -6;
        }
        int[] found = null;
        for (int set = 63; set >= 0; set--) {
            int[] spans = sources[1].clone();
            int cost = 0;
            for (int s = 0; s < 6; s++) {
                if ((set & 1 << s) != 0) {
                    spans[s] = spans[s] / 2;
                    cost += sources[2][s];
                }
            }
            BigInteger width = widthBySpans(whole, sources[0], spans);
            if (width.compareTo(BigInteger.valueOf(limit)) <= 0 && (found == null || cost <= found[1])) {
                found = new int[] {set, cost};
            }
        }
        return found == null ? -5 : found[what];
    }

    // ---- what fits, odds, plans

    int fits(int formula, int source, long told, int what) {
        Node whole = asked(formula);
        if (whole == null || !within(source, 0, 5) || !within(what, 0, 1)) {
            return -1;
        }
        BigInteger number = BigInteger.valueOf(told);
        List<Integer> fitting = new ArrayList<>();
        for (int v = -99; v <= 99; v++) {
            int[] lows = lows();
            int[] highs = highs();
            lows[source] = v - sources[1][source];
            highs[source] = v + sources[1][source];
            Ends ends = spanned(whole, lows, highs);
            if (ends != null && number.compareTo(ends.low) >= 0 && number.compareTo(ends.high) <= 0) {
                fitting.add(v);
            }
        }
        return what == 0 ? fitting.size() : fitting.isEmpty() ? -1000 : fitting.get(0);
    }

    long odds(int formula, int seed, int m, long low, long high, int part) {
        Node whole = asked(formula);
        if (whole == null || !within(m, 1, 30) || !within(part, 0, 1)) {
            return NO;
        }
        if (spanned(whole) == null) {
            return OVER;
        }
        int hits = 0;
        for (int i = 0; i < m; i++) {
            BigInteger z = BigInteger.valueOf((int) ((long) seed + i));
            int[] at = new int[6];
            for (int s = 0; s < 6; s++) {
                z = z.multiply(BigInteger.valueOf(1103515245)).add(BigInteger.valueOf(12345));
                long below31 = z.mod(BigInteger.ONE.shiftLeft(31)).longValueExact();
                at[s] = lows()[s] + (int) (below31 / 65536 % (2 * sources[1][s] + 1));
            }
            long worth = worth(whole, at).longValueExact();
            hits += worth >= low && worth <= high ? 1 : 0;
        }
        int common = BigInteger.valueOf(hits).gcd(BigInteger.valueOf(m)).intValue();
        return (part == 0 ? hits : m) / common;
    }

    int plan(int source, int what, int v) {
        if (source == -1) {
            rows.clear();
            return 0;
        }
        if (!within(source, 0, 5) || !within(what, 0, 2)) {
            return -1;
        }
        if (what == 2 ? !within(v, 0, 4) : !may(what, v)) {
            return -2;
        }
        if (rows.size() == 8) {
            return -4;
        }
        rows.add(new Row(source, what, v));
        return rows.size();
    }

    long ends(int formula) {
        Node whole = asked(formula);
        if (whole == null) {
            return NO;
        }
        int[] values = sources[0].clone();
        int[] spans = sources[1].clone();
        for (Row row : rows) {
            if (row.what == 0) {
                values[row.source] = row.v;
            } else if (row.what == 1) {
                spans[row.source] = row.v;
            }
            for (int i = 0; row.what == 2 && i < row.v; i++) {
                spans[row.source] = spans[row.source] / 2;
            }
        }
        BigInteger width = widthBySpans(whole, values, spans);
        return width == null ? OVER : width.longValueExact();
    }

    // ---- lists, the image

    int judge(int list) {
        if (!within(list, 0, 3)) {
            return -1;
        }
        if (lists[list] == null) {
            return -11;
        }
        for (int i = 0; i < lists[list].length; i++) {
            BigInteger width = asked(i) == null ? null : width(spanned(asked(i)));
            if (width == null || !width.equals(BigInteger.valueOf(lists[list][i]))) {
                return i;
            }
        }
        return -5;
    }

    int list(int list, int n) {
        if (!within(list, 0, 3)) {
            return -1;
        }
        if (n > 8) {
            return -2;
        }
        if (n < 0) {
            return -14;
        }
        lists[list] = new long[n];
        return 1;
    }

    int put(int list, int i, long v) {
        if (!within(list, 0, 3)) {
            return -1;
        }
        if (lists[list] == null) {
            return -11;
        }
        if (!within(i, 0, lists[list].length - 1)) {
            return -13;
        }
        lists[list][i] = v;
        return 1;
    }

    long get(int list, int i) {
        boolean there = within(list, 0, 3) && lists[list] != null && within(i, 0, lists[list].length - 1);
        return there ? lists[list][i] : NO;
    }

    private static int[][] copyOf(int[][] sources) {
        return new int[][] {sources[0].clone(), sources[1].clone(), sources[2].clone()};
    }

    int image() {
        imageSources = copyOf(sources);
        imageFormulas = new ArrayList<>(formulas);
        imageRows = new ArrayList<>(rows);
        return formulas.size();
    }

    int undo() {
        if (imageSources == null) {
            return -3;
        }
        sources = copyOf(imageSources);
        formulas = new ArrayList<>(imageFormulas);
        rows = new ArrayList<>(imageRows);
        return formulas.size();
    }

    int count(int what) {
        int over = 0;
        for (Node whole : formulas) {
            over += spanned(whole) == null ? 1 : 0;
        }
        int wide = 0;
        for (int span : sources[1]) {
            wide += span > 0 ? 1 : 0;
        }
        int[] answers = {formulas.size(), tape.length(), rows.size(), over, wide};
        return within(what, 0, 4) ? answers[what] : -2;
    }
}
