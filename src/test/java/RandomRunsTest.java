import java.util.Random;

/** Runs of 512 calls by fixed seeds, each answer held against the Oracle's. */
public final class RandomRunsTest {
    private static final int RUNS = 400;
    private static final int CALLS = 512;
    private static final Expect EXPECT = new Expect("RandomRunsTest");

    private final Random random;
    private final SpanKeeper keeper = new SpanKeeper();
    private final Oracle oracle = new Oracle();
    private final String run;
    private int calls = 0;

    private RandomRunsTest(int seed) {
        random = new Random(seed);
        run = "run " + seed + ", call ";
    }

    public static void main(String[] args) {
        for (int seed = 1; seed <= RUNS; seed++) {
            new RandomRunsTest(seed).go();
        }
        EXPECT.finish();
    }

    private void go() {
        while (calls < CALLS) {
            int kind = random.nextInt(20);
            if (kind < 3) {
                readText();
            } else if (kind < 7) {
                changeSources();
            } else if (kind < 14) {
                askSpans();
            } else if (kind < 17) {
                askFits();
            } else {
                askLists();
            }
        }
    }

    private void same(String call, long got, long want) {
        calls++;
        EXPECT.due(run + calls + ": " + call, got, want);
    }

    /** Mostly a number from 0 to most, now and then one beside them. */
    private int near(int most) {
        int odd = random.nextInt(25);
        return odd == 0 ? -1 : odd == 1 ? most + 1 : random.nextInt(most + 1);
    }

    private int formulaNumber() {
        int many = keeper.count(0);
        return many > 0 && random.nextInt(12) != 0 ? random.nextInt(many) : near(5);
    }

    // ---- texts

    private void readText() {
        String text = random.nextInt(4) == 0 ? greatText() : sum(0);
        text = random.nextInt(8) == 0 ? spoilt(text) : text;
        for (int i = 0; i < text.length() && i < 62; i++) {
            char letter = text.charAt(i);
            same("feed(" + (int) letter + ")", keeper.feed(letter), oracle.feed(letter));
        }
        same("formula() of " + text, keeper.formula(), oracle.formula());
        if (random.nextInt(3) == 0) {
            same("drop()", keeper.drop(), oracle.drop());
        }
        same("count(1)", keeper.count(1), oracle.count(1));
    }

    private String sum(int open) {
        StringBuilder text = new StringBuilder(product(open));
        while (random.nextInt(10) < 4 && text.length() < 40) {
            text.append(random.nextBoolean() ? '+' : '-').append(product(open));
        }
        return text.toString();
    }

    private String product(int open) {
        StringBuilder text = new StringBuilder(factor(open));
        while (random.nextInt(10) < 4 && text.length() < 40) {
            text.append('*').append(factor(open));
        }
        return text.toString();
    }

    private String factor(int open) {
        int kind = random.nextInt(12);
        if (kind < 2 && open < 7) {
            return "-" + factor(open + 1);
        }
        if (kind < 4 && open < 7) {
            return "(" + sum(open + 1) + ")";
        }
        if (kind < 6) {
            return Integer.toString(random.nextInt(random.nextBoolean() ? 12 : 11000));
        }
        return Character.toString((char) ('a' + random.nextInt(6)));
    }

    /** About as great as a long, so that spans, widths or changes may be none. */
    private String greatText() {
        StringBuilder text = new StringBuilder();
        int factors = 4 + random.nextInt(6);
        for (int i = 0; i < factors; i++) {
            text.append(i == 0 ? "" : "*").append(greatFactor());
        }
        if (random.nextInt(3) == 0) {
            text.insert(0, random.nextBoolean() ? "-(" : "(").append(')');
        }
        if (random.nextBoolean() && text.length() < 56) {
            text.append(random.nextBoolean() ? '+' : '-').append(factor(4));
        }
        return text.toString();
    }

    private String greatFactor() {
        switch (random.nextInt(5)) {
            case 0:
                return "ab-cd".charAt(random.nextInt(2)) + "";
            case 1:
                return "(a+b)";
            case 2:
                return "8192";
            default:
                return Integer.toString(random.nextInt(10000));
        }
    }

    private String spoilt(String text) {
        StringBuilder spoilt = new StringBuilder(text);
        int at = random.nextInt(text.length());
        char letter = "abf09()-+* gA/;'".charAt(random.nextInt(16));
        switch (random.nextInt(3)) {
            case 0:
                spoilt.setCharAt(at, letter);
                break;
            case 1:
                spoilt.insert(at, letter);
                break;
            default:
                spoilt.setLength(at);
                break;
        }
        return spoilt.toString();
    }

    // ---- calls

    private void changeSources() {
        int source = near(5);
        int what = near(2);
        int v = random.nextInt(4) == 0 ? random.nextInt(230) - 115 : random.nextInt(12) - 2;
        same("set(" + source + ", " + what + ", " + v + ")",
            keeper.set(source, what, v), oracle.set(source, what, v));
        int asked = near(4);
        same("of(" + source + ", " + asked + ")", keeper.of(source, asked), oracle.of(source, asked));
        int counted = near(4);
        same("count(" + counted + ")", keeper.count(counted), oracle.count(counted));
        int letter = random.nextInt(140) - 6;
        if (random.nextInt(10) == 0) {
            same("feed(" + letter + ")", keeper.feed(letter), oracle.feed(letter));
        }
    }

    private void askSpans() {
        int f = formulaNumber();
        int end = near(2);
        int source = near(5);
        String of = "(" + f + ", ";
        switch (random.nextInt(10)) {
            case 0:
                same("parts" + of + end + ")", keeper.parts(f, end * 2), oracle.parts(f, end * 2));
                same("parts" + of + 1 + ")", keeper.parts(f, 1), oracle.parts(f, 1));
                int other = formulaNumber();
                same("alike" + of + other + ")", keeper.alike(f, other), oracle.alike(f, other));
                break;
            case 1:
                same("span" + of + end + ")", keeper.span(f, end), oracle.span(f, end));
                int k = near(4);
                same("way(-1)", keeper.way(-1), oracle.way(-1));
                same("way(" + k + ")", keeper.way(k), oracle.way(k));
                break;
            case 2:
                same("exact(" + f + ")", keeper.exact(f), oracle.exact(f));
                break;
            case 3:
                same("corner" + of + end + ")", keeper.corner(f, end), oracle.corner(f, end));
                break;
            case 4:
                same("rises" + of + source + ")", keeper.rises(f, source), oracle.rises(f, source));
                break;
            case 5:
                same("tight" + of + end + ")", keeper.tight(f, end), oracle.tight(f, end));
                break;
            case 6:
                askSplit(f, source, end);
                break;
            case 7:
                same("best" + of + end + ")", keeper.best(f, end), oracle.best(f, end));
                break;
            case 8:
                same("widest(" + f + ")", keeper.widest(f), oracle.widest(f));
                break;
            default:
                askAgain(f, near(1));
                break;
        }
    }

    private void askSplit(int f, int source, int end) {
        int middle = source >= 0 && source < 6 ? keeper.of(source, 0) : 0;
        int span = source >= 0 && source < 6 ? keeper.of(source, 1) : 0;
        int c = middle + random.nextInt(2 * span + 3) - span - 1;
        same("split(" + f + ", " + source + ", " + c + ", " + end + ")",
            keeper.split(f, source, c, end), oracle.split(f, source, c, end));
    }

    private long width(int f) {
        long width = oracle.span(f, 2);
        same("span(" + f + ", 2)", keeper.span(f, 2), width);
        return width;
    }

    private void askAgain(int f, int what) {
        long width = width(f);
        long limit = width < 0 || width > Long.MAX_VALUE / 2 ? random.nextInt(100) - 3
            : (long) (width * random.nextDouble() * 1.1);
        limit = random.nextInt(9) == 0 ? random.nextLong() : limit;
        same("again(" + f + ", " + limit + ", " + what + ")",
            keeper.again(f, limit, what), oracle.again(f, limit, what));
    }

    private void askFits() {
        int f = formulaNumber();
        int source = near(5);
        long told = random.nextInt(3) == 0 ? random.nextInt(400) - 200 : someWorth(f);
        switch (random.nextInt(5)) {
            case 0:
                int what = near(1);
                same("fits(" + f + ", " + source + ", " + told + ", " + what + ")",
                    keeper.fits(f, source, told, what), oracle.fits(f, source, told, what));
                break;
            case 1:
                askOdds(f);
                break;
            case 2:
            case 3:
                int from = random.nextInt(25) == 0 ? -1 : near(5);
                int kind = near(2);
                int v = kind == 2 ? near(4) : random.nextInt(26) - 3;
                same("plan(" + from + ", " + kind + ", " + v + ")",
                    keeper.plan(from, kind, v), oracle.plan(from, kind, v));
                break;
            default:
                same("ends(" + f + ")", keeper.ends(f), oracle.ends(f));
                break;
        }
    }

    private long someWorth(int f) {
        long low = oracle.tight(f, 0);
        return low <= Oracle.OVER ? 0 : low + random.nextInt(40);
    }

    private void askOdds(int f) {
        int seed = random.nextInt(6) == 0 ? Integer.MAX_VALUE - random.nextInt(3) : random.nextInt();
        int m = random.nextInt(8) == 0 ? near(31) : 1 + random.nextInt(30);
        long low = someWorth(f) + random.nextInt(30);
        long high = low + random.nextInt(1000) - 50;
        int part = near(1);
        same("odds(" + f + ", " + seed + ", " + m + ", " + low + ", " + high + ", " + part + ")",
            keeper.odds(f, seed, m, low, high, part), oracle.odds(f, seed, m, low, high, part));
    }

    private void askLists() {
        int list = near(3);
        switch (random.nextInt(7)) {
            case 0:
                int n = near(8);
                same("list(" + list + ", " + n + ")", keeper.list(list, n), oracle.list(list, n));
                break;
            case 1:
            case 2:
                int i = near(7);
                long v = random.nextInt(4) == 0 ? random.nextInt(9) : width(i);
                same("put(" + list + ", " + i + ", " + v + ")", keeper.put(list, i, v), oracle.put(list, i, v));
                break;
            case 3:
                int place = near(7);
                same("get(" + list + ", " + place + ")", keeper.get(list, place), oracle.get(list, place));
                break;
            case 4:
                same("judge(" + list + ")", keeper.judge(list), oracle.judge(list));
                break;
            case 5:
                same("image()", keeper.image(), oracle.image());
                break;
            default:
                same("undo()", keeper.undo(), oracle.undo());
                break;
        }
    }
}
