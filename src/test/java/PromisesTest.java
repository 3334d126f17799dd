/** Each promise of the document by hand: ordinary answers, the edges it names, wrong inputs. */
public final class PromisesTest {
    private static final Expect EXPECT = new Expect("PromisesTest");
    private static final long NO = Long.MIN_VALUE;
    private static final long OVER = Long.MIN_VALUE + 1;
    /** 10 to the 16th less something: four factors of 9999. */
    private static final String FOUR_NINES = "9999*9999*9999*9999";
    private static final long FOUR_NINES_WORTH = 9996000599960001L;
    private static final String SIX_NINES = "9999*9999*9999*9999*9999*9999";

    public static void main(String[] args) {
        promise1NewObject();
        promise2Set();
        promise3Of();
        promise4Feed();
        promise5FormulaGrammar();
        promise5FormulaFaults();
        promise5FormulaFull();
        promise6Drop();
        promise7Parts();
        promise8Alike();
        promise9Span();
        promise9SpanAtTheLongsEnds();
        promise9OneEndOver();
        promise9WidthAloneOver();
        promise10Way();
        promise10WayStays();
        promise11Exact();
        promise12Corner();
        promise13Rises();
        promise14Tight();
        promise15Split();
        promise16Best();
        promise17Widest();
        promise18Again();
        promise18AgainNotAndPast();
        promise19Fits();
        promise20Odds();
        promise20OddsDraws();
        promise21Plan();
        promise22Ends();
        promise23Judge();
        promise24List();
        promise25Put();
        promise26Get();
        promise27And28ImageUndo();
        promise29Count();
        EXPECT.finish();
    }

    private static void due(String call, long got, long want) {
        EXPECT.due(call, got, want);
    }

    private static int read(SpanKeeper keeper, String text) {
        return EXPECT.read(keeper, text);
    }

    /** A keeper with the formulas of the texts, numbered as they come. */
    private static SpanKeeper with(String... texts) {
        SpanKeeper keeper = new SpanKeeper();
        for (int i = 0; i < texts.length; i++) {
            due("formula " + texts[i], read(keeper, texts[i]), i);
        }
        return keeper;
    }

    private static void promise1NewObject() {
        SpanKeeper keeper = new SpanKeeper();
        for (int what = 0; what < 5; what++) {
            due("count(" + what + ") of a new object", keeper.count(what), 0);
        }
        for (int source = 0; source < 6; source++) {
            due("value at first", keeper.of(source, 0), 0);
            due("span at first", keeper.of(source, 1), 0);
            due("cost at first", keeper.of(source, 2), 1);
        }
        for (int list = 0; list < 4; list++) {
            due("list at first", keeper.judge(list), -11);
            due("list at first", keeper.get(list, 0), NO);
        }
        due("way at first", keeper.way(-1), 0);
        due("drop at first", keeper.drop(), SpanKeeper.STATE);
        due("undo at first", keeper.undo(), SpanKeeper.STATE);
        due("span at first", keeper.span(0, 0), NO);
    }

    private static void promise2Set() {
        SpanKeeper keeper = new SpanKeeper();
        due("set value", keeper.set(0, 0, 99), 0);
        due("set value", keeper.set(0, 0, -99), 99);
        due("set value", keeper.set(0, 0, 7), -99);
        due("set span", keeper.set(5, 1, 20), 0);
        due("set span", keeper.set(5, 1, 0), 20);
        due("set cost", keeper.set(3, 2, 99), 1);
        due("set cost", keeper.set(3, 2, 0), 99);
        due("value beyond", keeper.set(0, 0, 100), -1001);
        due("value below", keeper.set(0, 0, -100), -1001);
        due("span beyond", keeper.set(0, 1, 21), -1001);
        due("span below", keeper.set(0, 1, -1), -1001);
        due("cost beyond", keeper.set(0, 2, 100), -1001);
        due("cost below", keeper.set(0, 2, -1), -1001);
        due("source below", keeper.set(-1, 0, 1), -1000);
        due("source beyond", keeper.set(6, 0, 1), -1000);
        due("what below", keeper.set(0, -1, 1), -1000);
        due("what beyond", keeper.set(0, 3, 1), -1000);
        due("source named ahead of v", keeper.set(6, 0, 1000), -1000);
        due("int's ends", keeper.set(Integer.MIN_VALUE, Integer.MAX_VALUE, Integer.MIN_VALUE), -1000);
        due("what is answered so changes nothing", keeper.of(0, 0), 7);
        due("what is answered so changes nothing", keeper.of(0, 1), 0);
        due("what is answered so changes nothing", keeper.of(0, 2), 1);
        due("others stay", keeper.of(1, 0), 0);
    }

    private static void promise3Of() {
        SpanKeeper keeper = new SpanKeeper();
        Expect.stand(keeper, 2, -99, 20);
        keeper.set(2, 2, 42);
        due("of value", keeper.of(2, 0), -99);
        due("of span", keeper.of(2, 1), 20);
        due("of cost", keeper.of(2, 2), 42);
        due("of low", keeper.of(2, 3), -119);
        due("of high", keeper.of(2, 4), -79);
        due("of what beyond", keeper.of(2, 5), -1000);
        due("of what below", keeper.of(2, -1), -1000);
        due("of source beyond", keeper.of(6, 0), -1000);
        due("of source below", keeper.of(-1, 0), -1000);
    }

    private static void promise4Feed() {
        SpanKeeper keeper = new SpanKeeper();
        due("feed 0", keeper.feed(0), SpanKeeper.BAD);
        due("feed 128", keeper.feed(128), SpanKeeper.BAD);
        due("feed -1", keeper.feed(-1), SpanKeeper.BAD);
        due("feed a + 256", keeper.feed('a' + 256), SpanKeeper.BAD);
        due("feed 1", keeper.feed(1), 1);
        due("feed 127", keeper.feed(127), 2);
        due("a fault empties the tape", keeper.formula(), -100);
        for (int i = 1; i <= 60; i++) {
            due("feed", keeper.feed(i % 2 == 1 ? 'a' : '+'), i);
        }
        due("feed the 61st", keeper.feed('b'), SpanKeeper.FULL);
        due("feed of no byte is BAD first", keeper.feed(0), SpanKeeper.BAD);
        due("bytes", keeper.count(1), 60);
        due("ends in +", keeper.formula(), -160);
        due("bytes", keeper.count(1), 0);
    }

    private static void promise5FormulaGrammar() {
        // a = 2, b = 3, c = 5, d = 7, e = 11, f = 13: what a text is worth tells how it is read
        String[] texts = {"a", "f", "0", "9999", "0042", "-a", "--a", "a-b-c", "a-(b-c)", "a+b*c", "(a+b)*c",
            "a*-b", "-a*b", "-(a+b)*c", "a--b", "a---b", "((((((d))))))", "------e", "-(-(-(a)))",
            "(-(-(-a+b)))", "a*b*c-d*e", "((((((a))))))*((((((b))))))", "f-(e-(d-(c-(b-a))))"};
        long[] worths = {2, 13, 0, 9999, 42, -2, 2, -6, 4, 17, 25,
            -6, -6, -25, 5, -1, 7, 11, -2,
            1, -47, 6, 13 - (11 - (7 - (5 - 1)))};
        int[] primes = {2, 3, 5, 7, 11, 13};
        for (int i = 0; i < texts.length; i++) {
            SpanKeeper keeper = with(texts[i]);
            for (int source = 0; source < 6; source++) {
                keeper.set(source, 0, primes[source]);
            }
            due("exact of " + texts[i], keeper.exact(0), worths[i]);
            due("tape behind it", keeper.count(1), 0);
        }
    }

    private static void promise5FormulaFaults() {
        faultsAre(0, "", "g", "A", " ", "*a", "+a", ")", "/", "@", "`", ":", "\u0001", "\u007f");
        faultsAre(1, "a ", "a b", "ab", "a1", "1a", "0x", "()", "a()", "a)", "a(b)", "2(a)", "-", "(", "-)", "(+a)",
            "a/b", "a\u0001", "a=");
        faultsAre(2, "a+", "a*", "a-", "a++b", "a**b", "(a", "(-", "-(", "a-)");
        faultsAre(3, "(a))", "(a)(b)", "(a)b", "(a)1", "(a+)", "a*(");
        faultsAre(4, "12345", "00000", "(a+b", "((a)", "1000a");
        faultsAre(6, "a+12345", "-------a", "(((((((a", "-(-(-(-a", "((((((-a", "------(a)", "(-(-(-(");
        faultsAre(8, "-(-(-(a*-b", "a--------b", "a*((((((-b", "a+------(b)");
        faultsAre(18, "(a)*((((((b))))))+g");
        // behind its factor a - is open no more; a - between is never open
        SpanKeeper keeper = with("------a*------b", "a-------b", "((((((a))))))-((((((b))))))", "-(-a*-b)*-(-c)");
        due("sound ones", keeper.count(0), 4);
    }

    private static void faultsAre(int fault, String... texts) {
        for (String text : texts) {
            SpanKeeper keeper = new SpanKeeper();
            due("formula " + text, read(keeper, text), -100 - fault);
            due("formulas behind " + text, keeper.count(0), 0);
            due("tape behind " + text, keeper.count(1), 0);
        }
    }

    private static void promise5FormulaFull() {
        SpanKeeper keeper = with("a", "b", "c", "d", "e", "f");
        due("a seventh", read(keeper, "a+b"), SpanKeeper.FULL);
        due("tape behind FULL", keeper.count(1), 0);
        due("a fault ahead of FULL", read(keeper, "a+"), -102);
        due("tape behind a fault", keeper.count(1), 0);
        due("formulas", keeper.count(0), 6);
        keeper.set(5, 0, 9);
        due("the last one stays", keeper.exact(5), 9);
        due("drop", keeper.drop(), 5);
        due("a sixth again", read(keeper, "a+8"), 5);
        due("a sixth again", keeper.exact(5), 8);
    }

    private static void promise6Drop() {
        SpanKeeper keeper = with("a", "1+2");
        due("drop", keeper.drop(), 1);
        due("the last is no more", keeper.exact(1), NO);
        due("the first is there", keeper.exact(0), 0);
        due("drop", keeper.drop(), 0);
        due("drop", keeper.drop(), SpanKeeper.STATE);
        due("tape stays", keeper.feed('a'), 1);
        due("drop", keeper.drop(), SpanKeeper.STATE);
        due("tape stays", keeper.count(1), 1);
        due("numbers go on from there", keeper.formula(), 0);
    }

    private static void promise7Parts() {
        partsAre("a", 1, 1, 1, 1, 0);
        partsAre("7", 1, 1, 1, 0, 0);
        partsAre("((f))", 1, 1, 1, 32, 0);
        partsAre("a-a", 3, 2, 2, 1, 1);
        partsAre("-a--a", 5, 3, 2, 1, 2);
        partsAre("a+b+c+d", 7, 7, 1, 15, 3);
        partsAre("(a+b)+(c+d)", 7, 7, 1, 15, 2);
        partsAre("a*b*a*b", 7, 5, 2, 3, 3);
        partsAre("(a*b)*(a*b)", 7, 4, 2, 3, 2);
        partsAre("a*b+b*a", 7, 5, 2, 3, 2);
        partsAre("(a-b)*(a-c)", 7, 6, 2, 7, 2);
        partsAre("(a-b)*(c-b)", 7, 6, 2, 7, 2);
        partsAre("07+7+7*007", 7, 4, 4, 0, 2);
        partsAre("0-1-0*1+0", 9, 6, 3, 0, 3);
        partsAre("a-b+(a-b)", 7, 4, 2, 3, 2);
        partsAre("a+b-(a-b)", 7, 5, 2, 3, 2);
        partsAre("------a", 7, 7, 1, 1, 6);
        partsAre("a+a+a+a+a+a+a+a+a+a+a+a+a+a+a+a+a+a+a+a+a+a+a+a+a+a+a+a+a+a", 59, 30, 30, 1, 29);
        SpanKeeper keeper = with("a");
        due("parts of none", keeper.parts(1, 0), SpanKeeper.NONE);
        due("parts of none", keeper.parts(-1, 0), SpanKeeper.NONE);
        due("parts, what beyond", keeper.parts(0, 5), SpanKeeper.NONE);
        due("parts, what below", keeper.parts(0, -1), SpanKeeper.NONE);
    }

    private static void partsAre(String text, int... answers) {
        SpanKeeper keeper = with(text);
        for (int what = 0; what < answers.length; what++) {
            due("parts of " + text + ", " + what, keeper.parts(0, what), answers[what]);
        }
    }

    private static void promise8Alike() {
        String[][] like = {{"a", "(a)"}, {"7", "007"}, {"a-b-c", "(a-b)-c"}, {"-a*b", "(-a)*b"}, {"0", "0000"},
            {"-(a+b)", "-((a)+b)"}};
        String[][] unlike = {{"a", "b"}, {"7", "8"}, {"a-b-c", "a-(b-c)"}, {"-a*b", "-(a*b)"}, {"a+b", "b+a"},
            {"a+b", "a-b"}, {"a+b", "a*b"}, {"-a", "a"}, {"--a", "a"}, {"a", "0"}, {"b", "1"}, {"0-a", "-a"},
            {"a+b+c", "a+b"}, {"a*(b+c)", "a*b+c"}};
        for (String[] pair : like) {
            SpanKeeper keeper = with(pair);
            due("alike " + pair[0] + " " + pair[1], keeper.alike(0, 1), 1);
            due("alike " + pair[1] + " " + pair[0], keeper.alike(1, 0), 1);
        }
        for (String[] pair : unlike) {
            SpanKeeper keeper = with(pair);
            due("alike " + pair[0] + " " + pair[1], keeper.alike(0, 1), 0);
            due("alike " + pair[1] + " " + pair[0], keeper.alike(1, 0), 0);
        }
        SpanKeeper keeper = with("a");
        due("alike itself", keeper.alike(0, 0), 1);
        due("alike none", keeper.alike(0, 1), SpanKeeper.NONE);
        due("none alike", keeper.alike(1, 0), SpanKeeper.NONE);
        due("none alike", keeper.alike(-1, -1), SpanKeeper.NONE);
    }

    private static void promise9Span() {
        SpanKeeper keeper = with("a", "-a", "a+b", "a-b", "a*b", "5");
        Expect.stand(keeper, 0, 1, 3);
        Expect.stand(keeper, 1, -4, 1);
        long[][] spans = {{-2, 4, 6}, {-4, 2, 6}, {-7, 1, 8}, {1, 9, 8}, {-20, 10, 30}, {5, 5, 0}};
        for (int f = 0; f < 6; f++) {
            for (int end = 0; end < 3; end++) {
                due("span(" + f + ", " + end + ")", keeper.span(f, end), spans[f][end]);
            }
        }
        due("span, end beyond", keeper.span(0, 3), NO);
        due("span, end below", keeper.span(0, -1), NO);
        due("span of none", keeper.span(6, 0), NO);
        due("span of none", keeper.span(-1, 0), NO);
        due("no way by that", keeper.way(-1), 0);
        int[] low = {-6, -2, 3};
        int[] high = {-2, 4, 5};
        for (int one = 0; one < 3; one++) {
            for (int other = 0; other < 3; other++) {
                productIs(low[one], high[one], low[other], high[other]);
            }
        }
    }

    /** By all products of whole numbers within: the utmost ones are at the ends. */
    private static void productIs(int low, int high, int otherLow, int otherHigh) {
        SpanKeeper keeper = with("c*d");
        Expect.stand(keeper, 2, (low + high) / 2, (high - low) / 2);
        Expect.stand(keeper, 3, (otherLow + otherHigh) / 2, (otherHigh - otherLow) / 2);
        long least = Long.MAX_VALUE;
        long greatest = Long.MIN_VALUE;
        for (int x = low; x <= high; x++) {
            for (int y = otherLow; y <= otherHigh; y++) {
                least = Math.min(least, x * y);
                greatest = Math.max(greatest, x * y);
            }
        }
        String of = " of " + low + ".." + high + " by " + otherLow + ".." + otherHigh;
        due("product's low" + of, keeper.span(0, 0), least);
        due("product's high" + of, keeper.span(0, 1), greatest);
    }

    private static void promise9SpanAtTheLongsEnds() {
        // the least long is a worth like any other, though it reads as NO
        SpanKeeper keeper = with("-8*4096*4096*4096*4096*4096", "8*4096*4096*4096*4096*4096",
            "-(-8*4096*4096*4096*4096*4096)", "-8*4096*4096*4096*4096*4096-1",
            "-8*4096*4096*4096*4096*4096+1", "-8*4096*4096*4096*4096*4096*(a-1)");
        due("the least long", keeper.span(0, 0), Long.MIN_VALUE);
        due("the least long's width", keeper.span(0, 2), 0);
        due("no way by that", keeper.way(-1), 0);
        due("one past the greatest long", keeper.span(1, 1), OVER);
        due("way of it", keeper.way(-1), 1);
        due("way of it", keeper.way(0), 21);
        due("less the least long", keeper.span(2, 0), OVER);
        due("way of it", keeper.way(0), 0);
        due("one below the least long", keeper.span(3, 0), OVER);
        due("way of it", keeper.way(0), 27);
        due("one above the least long", keeper.span(4, 1), Long.MIN_VALUE + 1);
        due("the least long by -1", keeper.span(5, 1), OVER);
        due("over in all", keeper.count(3), 4);
        String half = "4*4096*4096*4096*4096*4096";
        keeper = with(half + "+(" + half + "-1)", half + "+" + half, "0-" + half + "-" + half,
            "0-" + half + "-" + half + "-1");
        due("the greatest long", keeper.span(0, 1), Long.MAX_VALUE);
        due("one more", keeper.span(1, 1), OVER);
        due("the least long by a difference", keeper.span(2, 0), Long.MIN_VALUE);
        due("one less", keeper.span(3, 0), OVER);
        due("over in all", keeper.count(3), 2);
    }

    /** By ends of a alone the one end of the formula, or one of the four products, is no long. */
    private static void promise9OneEndOver() {
        String two62 = "a*2*4096*4096*4096*4096*4096";
        String two63 = "a*4*4096*4096*4096*4096*4096";
        overIs("the low of a sum", two62 + "+" + two62 + "+b", -1, 1, -1, 0, true);
        overIs("the low of a sum, just not", two62 + "+" + two62 + "+b", -1, 1, 0, 0, false);
        overIs("the low of a sum by both lows", two63 + "+b", -1, 1, 0, 1, true);
        overIs("the high of a sum", two62 + "+" + two62, 1, 1, 0, 0, true);
        String nearTwo62 = "(8192*8192*8192*8192*1024-1)";
        overIs("the high of a sum by one", two62 + "+" + nearTwo62 + "+b", 1, 1, 1, 0, true);
        overIs("the high of a sum, just not", two62 + "+" + nearTwo62 + "+b", 1, 1, 0, 0, false);
        overIs("the low of a difference", two63 + "-b", -1, 1, 1, 1, true);
        overIs("the low of a difference, just not", two63 + "-b", -1, 1, -1, 1, false);
        overIs("the high of a difference", two62 + "--" + two62, 1, 1, 0, 0, true);
        overIs("low by low", two63 + "*b", -1, 1, 0, 1, true);
        overIs("low by high", two63 + "*b", -1, 1, 1, 1, true);
        overIs("high by high", two62 + "*b", 1, 1, 1, 1, true);
        overIs("high by low", two62 + "*b", 1, 1, -2, 2, true);
        overIs("none of the four", two62 + "*b", 1, 1, 0, 1, false);
        overIs("made of one that is over, the first", SIX_NINES + "*0", 0, 0, 0, 0, true);
        overIs("made of one that is over, the second", "0*(" + SIX_NINES + ")", 0, 0, 0, 0, true);
        overIs("less a low", "-(" + two63 + ")", -1, 1, 0, 0, true);
        overIs("less a high", "-(" + two62 + ")", 1, 1, 0, 0, false);
        overIs("-1 by a great one", "a*(4*4096*4096*4096*4096*4096)", -1, 0, 0, 0, false);
        overIs("-1 by the least long", "a*(-8*4096*4096*4096*4096*4096)", -1, 0, 0, 0, true);
        overIs("1 by the least long", "a*(-8*4096*4096*4096*4096*4096)", 1, 0, 0, 0, false);
        overIs("0 by the least long", "a*(-8*4096*4096*4096*4096*4096)", 0, 0, 0, 0, false);
        SpanKeeper keeper = with("4*4096*4096*4096*4096*4096-1--4*4096*4096*4096*4096*4096", two62 + "+" + two62);
        Expect.stand(keeper, 0, -1, 1);
        due("the greatest long by a difference", keeper.span(0, 1), Long.MAX_VALUE);
        due("the least long by a sum", keeper.span(1, 0), Long.MIN_VALUE);
    }

    private static void overIs(String what, String text, int a, int aSpan, int b, int bSpan, boolean over) {
        SpanKeeper keeper = with(text);
        Expect.stand(keeper, 0, a, aSpan);
        Expect.stand(keeper, 1, b, bSpan);
        due(what, keeper.count(3), over ? 1 : 0);
    }

    private static void promise9WidthAloneOver() {
        SpanKeeper keeper = with("a", "a*" + FOUR_NINES + "*40", "a*" + FOUR_NINES + "*40-a*" + FOUR_NINES + "*40");
        Expect.stand(keeper, 0, 0, 20);
        due("low is a long", keeper.span(1, 0), -800 * FOUR_NINES_WORTH);
        due("high is a long", keeper.span(1, 1), 800 * FOUR_NINES_WORTH);
        due("width is none", keeper.span(1, 2), OVER);
        due("that makes no way", keeper.way(-1), 0);
        due("nor is it over, as the difference is", keeper.count(3), 1);
        due("a difference over", keeper.span(2, 0), OVER);
        due("way of it", keeper.way(-1), 1);
        due("way of it", keeper.way(0), 24);
        keeper.set(0, 1, 11);
        due("width is a long", keeper.span(1, 2), 880 * FOUR_NINES_WORTH);
    }

    private static void promise10Way() {
        SpanKeeper keeper = with("a*(" + SIX_NINES + ")-b", "b+-(c+" + SIX_NINES + ")",
            SIX_NINES + "+" + SIX_NINES, "0*(" + SIX_NINES + ")");
        due("none yet", keeper.way(0), SpanKeeper.NONE);
        due("exact makes none", keeper.exact(0), OVER);
        due("corner makes none", keeper.corner(0, 0), OVER);
        due("rises makes none", keeper.rises(0, 0), SpanKeeper.PAST);
        due("tight makes none", keeper.tight(0, 0), OVER);
        due("split makes none", keeper.split(0, 0, 0, 0), OVER);
        due("best makes none", keeper.best(0, 0), OVER);
        due("widest makes none", keeper.widest(0), SpanKeeper.PAST);
        due("again makes none", keeper.again(0, 0, 0), SpanKeeper.PAST);
        due("ends makes none", keeper.ends(0), OVER);
        due("a wrong end makes none", keeper.span(0, 3), NO);
        due("none yet", keeper.way(-1), 0);
        due("span", keeper.span(0, 2), OVER);
        wayIs(keeper, 22, 27, 1, 33);
        due("span", keeper.span(1, 0), OVER);
        wayIs(keeper, 25, 30, 5, 2, 1);
        due("the first one that is over", keeper.span(2, 1), OVER);
        wayIs(keeper, 19, 24, 29);
        due("over by what it is made of", keeper.span(3, 0), OVER);
        wayIs(keeper, 22, 27, 1);
    }

    private static void wayIs(SpanKeeper keeper, int... places) {
        // the product of five nines is over already: all signs from the fourth on are on the way
        due("way's length", keeper.way(-1), places.length);
        for (int k = 0; k < places.length; k++) {
            due("way(" + k + ")", keeper.way(k), places[k]);
        }
        due("way beyond", keeper.way(places.length), SpanKeeper.NONE);
        due("way below", keeper.way(-2), SpanKeeper.NONE);
    }

    private static void promise10WayStays() {
        SpanKeeper keeper = with(SIX_NINES, "a*" + FOUR_NINES + "*40", "-(" + SIX_NINES + ")");
        keeper.set(0, 1, 20);
        keeper.span(0, 0);
        wayIs(keeper, 19, 24);
        due("width alone is none", keeper.span(1, 2), OVER);
        wayIs(keeper, 19, 24);
        due("a span that is there", keeper.span(1, 0), -800 * FOUR_NINES_WORTH);
        wayIs(keeper, 19, 24);
        due("image", keeper.image(), 3);
        due("another one", keeper.span(2, 0), OVER);
        wayIs(keeper, 21, 26, 0);
        due("undo", keeper.undo(), 3);
        wayIs(keeper, 21, 26, 0);
        keeper.drop();
        keeper.drop();
        keeper.drop();
        wayIs(keeper, 21, 26, 0);
        read(keeper, "a");
        due("count asks for what is over", keeper.count(3), 0);
        wayIs(keeper, 21, 26, 0);
        due("span of none", keeper.span(3, 0), NO);
        wayIs(keeper, 21, 26, 0);
    }

    private static void promise11Exact() {
        SpanKeeper keeper = with("a*a-b", "a*" + FOUR_NINES + "*99", "9*9", SIX_NINES);
        Expect.stand(keeper, 0, -7, 20);
        keeper.set(1, 0, 9);
        due("exact", keeper.exact(0), 40);
        due("over as spanned, though what it is worth is a long", keeper.exact(1), OVER);
        keeper.set(0, 1, 0);
        due("exact without a span", keeper.exact(1), -693 * FOUR_NINES_WORTH);
        due("exact of numbers", keeper.exact(2), 81);
        due("exact of what is over", keeper.exact(3), OVER);
        due("exact of none", keeper.exact(4), NO);
        due("exact of none", keeper.exact(-1), NO);
    }

    private static void promise12Corner() {
        SpanKeeper keeper = with("a*a", "a-a", "a*b-c*d+e*f", "a*a-4*a", "5", SIX_NINES);
        Expect.stand(keeper, 0, 1, 4);
        due("low of a*a by corners", keeper.corner(0, 0), 9);
        due("high of a*a by corners", keeper.corner(0, 1), 25);
        due("a-a low", keeper.corner(1, 0), 0);
        due("a-a high", keeper.corner(1, 1), 0);
        due("only corners count", keeper.corner(3, 0), 5);
        due("only corners count", keeper.corner(3, 1), 21);
        for (int source = 0; source < 6; source++) {
            Expect.stand(keeper, source, source + 1, 2);
        }
        // a -1..3, b 0..4, c 1..5, d 2..6, e 3..7, f 4..8
        due("all six low", keeper.corner(2, 0), -4 - 30 + 12);
        due("all six high", keeper.corner(2, 1), 12 - 2 + 56);
        due("a number's", keeper.corner(4, 0), 5);
        due("a number's", keeper.corner(4, 1), 5);
        due("over", keeper.corner(5, 1), OVER);
        due("wrong end", keeper.corner(0, 2), NO);
        due("wrong end", keeper.corner(0, -1), NO);
        due("none", keeper.corner(6, 0), NO);
        due("wrong end ahead of over", keeper.corner(5, 2), NO);
    }

    private static void promise13Rises() {
        SpanKeeper keeper = with("a*b-c", "a*a", "a-a", "a*0+b", "a*" + FOUR_NINES + "*9999", SIX_NINES);
        Expect.stand(keeper, 0, 2, 2);
        Expect.stand(keeper, 1, -3, 3);
        due("a*b-c by a, b from -6 to 0", keeper.rises(0, 0), 2);
        due("a*b-c by b, a from 0 to 4", keeper.rises(0, 1), 1);
        due("a*b-c by c", keeper.rises(0, 2), 2);
        due("a*b-c by d", keeper.rises(0, 3), 0);
        due("a*a by a from 0", keeper.rises(1, 0), 1);
        keeper.set(0, 0, 1);
        due("a*a by a from -1 to 3", keeper.rises(1, 0), 3);
        keeper.set(0, 0, -2);
        due("a*a by a to 0", keeper.rises(1, 0), 2);
        due("a-a is flat", keeper.rises(2, 0), 0);
        due("0 times", keeper.rises(3, 0), 0);
        SpanKeeper less = with("-a", "-(a-b)", "a+b", "b+a", "a-b*5");
        due("-a", less.rises(0, 0), 2);
        due("-(a-b) by a", less.rises(1, 0), 2);
        due("-(a-b) by b", less.rises(1, 1), 1);
        due("a+b", less.rises(2, 0), 1);
        due("b+a", less.rises(3, 0), 1);
        due("a-b*5", less.rises(4, 1), 2);
        due("by b", keeper.rises(3, 1), 1);
        due("over", keeper.rises(5, 0), SpanKeeper.PAST);
        due("none", keeper.rises(6, 0), SpanKeeper.NONE);
        due("wrong source", keeper.rises(0, 6), SpanKeeper.NONE);
        due("wrong source", keeper.rises(0, -1), SpanKeeper.NONE);
        due("wrong source ahead of PAST", keeper.rises(5, 6), SpanKeeper.NONE);
        Expect.stand(keeper, 0, 0, 0);
        due("not over", keeper.span(4, 1), 0);
        due("but its change is no long", keeper.rises(4, 0), 3);
        due("by another one it is flat", keeper.rises(4, 1), 0);
    }

    private static void promise14Tight() {
        SpanKeeper keeper = with("a*a-2*a", "a-a*b", "a*b", "c-c", SIX_NINES);
        Expect.stand(keeper, 0, 4, 3);
        due("rises: low at low", keeper.tight(0, 0), -1);
        due("rises: high at high", keeper.tight(0, 1), 35);
        Expect.stand(keeper, 1, 5, 2);
        due("falls by a and b: low", keeper.tight(1, 0), 7 - 49);
        due("falls by a and b: high", keeper.tight(1, 1), 1 - 3);
        Expect.stand(keeper, 1, 0, 2);
        due("by a 3, by b rises: low", keeper.tight(2, 0), -14);
        due("by a 3, by b rises: high", keeper.tight(2, 1), 14);
        Expect.stand(keeper, 2, 4, 3);
        due("flat stays as it is: low", keeper.tight(3, 0), -6);
        due("flat stays as it is: high", keeper.tight(3, 1), 6);
        due("over", keeper.tight(4, 0), OVER);
        due("wrong end", keeper.tight(0, 2), NO);
        due("wrong end", keeper.tight(0, -1), NO);
        due("none", keeper.tight(5, 0), NO);
        due("spans are as they were", keeper.span(0, 0), 1 - 14);
    }

    private static void promise15Split() {
        SpanKeeper keeper = with("a*a-2*a", "b", "a*" + FOUR_NINES + "*40", SIX_NINES);
        Expect.stand(keeper, 0, 4, 3);
        due("low", keeper.split(0, 0, 4, 0), Math.min(1 - 8, 16 - 14));
        due("high", keeper.split(0, 0, 4, 1), Math.max(16 - 2, 49 - 8));
        due("width", keeper.split(0, 0, 4, 2), 48);
        due("at its low", keeper.split(0, 0, 1, 0), -13);
        due("at its high", keeper.split(0, 0, 7, 1), 47);
        due("below its low", keeper.split(0, 0, 0, 0), NO);
        due("above its high", keeper.split(0, 0, 8, 0), NO);
        due("of another source: as without", keeper.split(0, 1, 0, 2), 60);
        due("of another source, beyond", keeper.split(0, 1, 1, 2), NO);
        due("wrong source", keeper.split(0, 6, 0, 0), NO);
        due("wrong source", keeper.split(0, -1, 0, 0), NO);
        due("wrong end", keeper.split(0, 0, 4, 3), NO);
        due("wrong end", keeper.split(0, 0, 4, -1), NO);
        due("none", keeper.split(4, 0, 4, 0), NO);
        due("over", keeper.split(3, 0, 4, 0), OVER);
        due("wrong c ahead of over", keeper.split(3, 0, 8, 0), NO);
        Expect.stand(keeper, 0, 0, 20);
        due("this width is no long", keeper.split(2, 0, 5, 2), OVER);
        due("this low is one", keeper.split(2, 0, 5, 0), -800 * FOUR_NINES_WORTH);
        due("spans are as they were", keeper.span(0, 1), 400 + 40);
    }

    private static void promise16Best() {
        SpanKeeper keeper = with("a*a-2*a", "a*b", "a*a+b*b", "a-a+(b-b)", "a*" + FOUR_NINES + "*40", SIX_NINES);
        due("no spans", keeper.best(0, 0), -1000);
        Expect.stand(keeper, 0, 4, 3);
        bestIs(keeper, 0, 0, 3, 12);
        bestIs(keeper, 1, -1000, -1000, -1000);
        Expect.stand(keeper, 0, 0, 5);
        Expect.stand(keeper, 1, 0, 5);
        // at 0 both come to 0 .. 25 from -25 .. 25: like ones, so the least source
        bestIs(keeper, 2, 0, 0, 25);
        Expect.stand(keeper, 1, 0, 6);
        bestIs(keeper, 2, 1, 0, 36);
        Expect.stand(keeper, 0, 0, 1);
        Expect.stand(keeper, 1, 0, 2);
        bestIs(keeper, 3, 1, 0, 4);
        due("wrong what", keeper.best(0, 3), NO);
        due("wrong what", keeper.best(0, -1), NO);
        due("none", keeper.best(6, 0), NO);
        due("over", keeper.best(5, 0), OVER);
        due("wrong what ahead of over", keeper.best(5, 3), NO);
        Expect.stand(keeper, 0, 0, 20);
        due("its width alone is over", keeper.best(4, 0), OVER);
        keeper = with("(a-1)*(a+1)");
        Expect.stand(keeper, 0, 1, 2);
        // by 0 and by 1 it is -4 .. 8 instead of -8 .. 8: like ones, so the least c
        due("by 0", keeper.split(0, 0, 0, 2), 12);
        due("by 1", keeper.split(0, 0, 1, 2), 12);
        bestIs(keeper, 0, 0, 0, 4);
    }

    private static void bestIs(SpanKeeper keeper, int formula, int source, int c, int less) {
        due("best source of " + formula, keeper.best(formula, 0), source);
        due("best c of " + formula, keeper.best(formula, 1), c);
        due("best gain of " + formula, keeper.best(formula, 2), less);
    }

    private static void promise17Widest() {
        SpanKeeper keeper = with("a*b+c", "5", "a*" + FOUR_NINES + "*40", SIX_NINES);
        due("no span", keeper.widest(0), SpanKeeper.NOT);
        due("over ahead of NOT", keeper.widest(3), SpanKeeper.PAST);
        keeper.set(5, 1, 1);
        due("one that does not stand in it", keeper.widest(0), 5);
        due("one that does not stand in it", keeper.widest(1), 5);
        keeper.set(3, 1, 1);
        due("of like ones the least", keeper.widest(1), 3);
        Expect.stand(keeper, 0, 10, 1);
        Expect.stand(keeper, 1, 2, 1);
        due("b widens most", keeper.widest(0), 1);
        keeper.set(0, 1, 20);
        due("a widens most, b less so", keeper.widest(0), 0);
        keeper.set(0, 1, 1);
        keeper.set(2, 1, 20);
        due("c widens most", keeper.widest(0), 2);
        due("none", keeper.widest(4), SpanKeeper.NONE);
        due("none", keeper.widest(-1), SpanKeeper.NONE);
        Expect.stand(keeper, 0, 0, 20);
        due("its width alone is over", keeper.widest(2), SpanKeeper.PAST);
        due("spans are as they were", keeper.of(0, 1), 20);
    }

    private static void promise18Again() {
        SpanKeeper keeper = with("a+b+c");
        for (int source = 0; source < 3; source++) {
            keeper.set(source, 1, 5);
        }
        // each half, cut, is 2: 6 of the width less
        againIs(keeper, 30, 0, 0);
        againIs(keeper, 29, 1, 1);
        againIs(keeper, 24, 1, 1);
        againIs(keeper, 23, 3, 2);
        againIs(keeper, 12, 7, 3);
        againIs(keeper, 11, -5, -5);
        keeper.set(0, 2, 3);
        againIs(keeper, 29, 2, 1);
        againIs(keeper, 18, 6, 2);
        keeper.set(0, 2, 2);
        keeper.set(2, 2, 99);
        againIs(keeper, 18, 3, 3);
        keeper.set(1, 2, 0);
        keeper.set(2, 2, 0);
        keeper.set(3, 2, 0);
        againIs(keeper, 30, 0, 0);
        againIs(keeper, 18, 6, 0);
        againIs(keeper, 17, 7, 2);
        againIs(keeper, Long.MAX_VALUE, 0, 0);
    }

    private static void againIs(SpanKeeper keeper, long limit, int set, int cost) {
        due("again's set by " + limit, keeper.again(0, limit, 0), set);
        due("again's cost by " + limit, keeper.again(0, limit, 1), cost);
    }

    private static void promise18AgainNotAndPast() {
        SpanKeeper keeper = with("a", "4", "a*" + FOUR_NINES + "*40", SIX_NINES);
        due("a span of 0 does with none", keeper.again(1, 0, 0), 0);
        due("a limit below 0", keeper.again(1, -1, 0), SpanKeeper.NOT);
        due("a limit below 0", keeper.again(1, Long.MIN_VALUE, 1), SpanKeeper.NOT);
        due("none ahead of a limit below 0", keeper.again(4, -1, 0), SpanKeeper.NONE);
        due("none", keeper.again(-1, 0, 0), SpanKeeper.NONE);
        due("wrong what", keeper.again(0, 0, 2), SpanKeeper.NONE);
        due("wrong what", keeper.again(0, 0, -1), SpanKeeper.NONE);
        due("over", keeper.again(3, 0, 0), SpanKeeper.PAST);
        due("over, wrong what", keeper.again(3, 0, 2), SpanKeeper.NONE);
        keeper.set(0, 1, 20);
        due("its width alone is over, though half would be none", keeper.again(2, Long.MAX_VALUE, 0), SpanKeeper.PAST);
        keeper.set(0, 1, 1);
        due("half of 1 is 0", keeper.again(0, 0, 0), 1);
        due("spans are as they were", keeper.of(0, 1), 1);
    }

    private static void promise19Fits() {
        SpanKeeper keeper = with("a", "a*a", "5", "a*" + FOUR_NINES + "*99", "b+0*a", SIX_NINES);
        due("only its own", keeper.fits(0, 0, -99, 0), 1);
        due("the least", keeper.fits(0, 0, -99, 1), -99);
        due("the greatest", keeper.fits(0, 0, 99, 1), 99);
        due("beyond all", keeper.fits(0, 0, 100, 0), 0);
        due("beyond all", keeper.fits(0, 0, 100, 1), -1000);
        keeper.set(0, 1, 2);
        due("within its span", keeper.fits(0, 0, 100, 0), 2);
        due("within its span", keeper.fits(0, 0, 100, 1), 98);
        due("a*a spans 4 by 0", keeper.fits(1, 0, 4, 0), 9);
        due("a*a spans 4 by -4 first", keeper.fits(1, 0, 4, 1), -4);
        due("a number fits always", keeper.fits(2, 0, 5, 0), 199);
        due("a number fits always", keeper.fits(2, 3, 5, 1), -99);
        due("a number that is not it", keeper.fits(2, 0, 6, 0), 0);
        keeper.set(1, 0, 7);
        due("of another source", keeper.fits(4, 1, 7, 0), 1);
        due("its own value does not matter", keeper.fits(4, 1, 8, 1), 8);
        keeper.set(0, 0, 99);
        due("over now", keeper.span(3, 0), OVER);
        keeper.set(0, 1, 0);
        due("by those values by which it is not over", keeper.fits(3, 0, 9 * 99 * FOUR_NINES_WORTH, 0), 1);
        due("by those values by which it is not over", keeper.fits(3, 0, 9 * 99 * FOUR_NINES_WORTH, 1), 9);
        due("over by all", keeper.fits(5, 0, 0, 0), 0);
        due("over by all", keeper.fits(5, 0, 0, 1), -1000);
        due("none", keeper.fits(6, 0, 0, 0), SpanKeeper.NONE);
        due("wrong source", keeper.fits(0, 6, 0, 0), SpanKeeper.NONE);
        due("wrong source", keeper.fits(0, -1, 0, 0), SpanKeeper.NONE);
        due("wrong what", keeper.fits(0, 0, 0, 2), SpanKeeper.NONE);
        due("wrong what", keeper.fits(0, 0, 0, -1), SpanKeeper.NONE);
        due("values are as they were", keeper.of(0, 0), 99);
        SpanKeeper two = with("a+b");
        due("a by b at 0", two.fits(0, 0, 1, 1), 1);
        due("b by a at 0", two.fits(0, 1, 1, 1), 1);
        two.set(0, 0, 5);
        due("b by a at 5", two.fits(0, 1, 1, 1), -4);
    }

    private static void promise20Odds() {
        SpanKeeper keeper = with("a", SIX_NINES);
        oddsAre(keeper, 30, 0, 0, 1, 1);
        oddsAre(keeper, 30, 1, 9, 0, 1);
        oddsAre(keeper, 30, 1, -1, 0, 1);
        oddsAre(keeper, 1, -5, 5, 1, 1);
        oddsAre(keeper, 7, Long.MIN_VALUE, Long.MAX_VALUE, 1, 1);
        oddsAre(keeper, 7, Long.MAX_VALUE, Long.MIN_VALUE, 0, 1);
        due("m below", keeper.odds(0, 1, 0, 0, 0, 0), NO);
        due("m beyond", keeper.odds(0, 1, 31, 0, 0, 0), NO);
        due("m far below", keeper.odds(0, 1, Integer.MIN_VALUE, 0, 0, 0), NO);
        due("wrong part", keeper.odds(0, 1, 1, 0, 0, 2), NO);
        due("wrong part", keeper.odds(0, 1, 1, 0, 0, -1), NO);
        due("none", keeper.odds(2, 1, 1, 0, 0, 0), NO);
        due("over", keeper.odds(1, 1, 1, 0, 0, 0), OVER);
        due("over, low above high", keeper.odds(1, 1, 1, 1, 0, 0), OVER);
        due("wrong m ahead of over", keeper.odds(1, 1, 31, 0, 0, 0), NO);
    }

    private static void oddsAre(SpanKeeper keeper, int m, long low, long high, long above, long below) {
        due("odds above the line", keeper.odds(0, 1, m, low, high, 0), above);
        due("odds below the line", keeper.odds(0, 1, m, low, high, 1), below);
    }

    private static void promise20OddsDraws() {
        // one seed a call tells where each source is drawn to; b, without a span, takes its draw all the same
        SpanKeeper keeper = with("a", "c", "f");
        Expect.stand(keeper, 0, 3, 20);
        Expect.stand(keeper, 2, -50, 7);
        Expect.stand(keeper, 5, 99, 1);
        int[] seeds = {0, 1, -1, 12345, Integer.MAX_VALUE, Integer.MIN_VALUE, -2000000000};
        for (int seed : seeds) {
            long z = seed;
            for (int source = 0; source < 6; source++) {
                z = (int) (z * 1103515245L + 12345L);
                long below = 2 * keeper.of(source, 1) + 1;
                long drawn = keeper.of(source, 3) + ((z & 0x7FFFFFFFL) >> 16) % below;
                if (source % 5 == 0 || source == 2) {
                    int formula = source == 0 ? 0 : source == 2 ? 1 : 2;
                    due("draw by " + seed, keeper.odds(formula, seed, 1, drawn, drawn, 0), 1);
                }
            }
        }
        for (int part = 0; part < 2; part++) {
            long hits = 0;
            for (int i = 0; i < 12; i++) {
                hits += keeper.odds(0, Integer.MAX_VALUE - 5 + i, 1, -9, 9, 0);
            }
            long common = hits == 0 ? 12 : gcd(hits, 12);
            due("seeds go on past the greatest int", keeper.odds(0, Integer.MAX_VALUE - 5, 12, -9, 9, part),
                (part == 0 ? hits : 12) / common);
        }
    }

    private static long gcd(long one, long other) {
        return other == 0 ? one : gcd(other, one % other);
    }

    private static void promise21Plan() {
        SpanKeeper keeper = new SpanKeeper();
        due("plan", keeper.plan(0, 0, 99), 1);
        due("plan", keeper.plan(0, 0, -99), 2);
        due("plan", keeper.plan(5, 1, 20), 3);
        due("plan", keeper.plan(5, 1, 0), 4);
        due("plan", keeper.plan(3, 2, 4), 5);
        due("plan", keeper.plan(3, 2, 0), 6);
        due("wrong value", keeper.plan(0, 0, 100), SpanKeeper.BAD);
        due("wrong value", keeper.plan(0, 0, -100), SpanKeeper.BAD);
        due("wrong span", keeper.plan(0, 1, 21), SpanKeeper.BAD);
        due("wrong span", keeper.plan(0, 1, -1), SpanKeeper.BAD);
        due("wrong times", keeper.plan(0, 2, 5), SpanKeeper.BAD);
        due("wrong times", keeper.plan(0, 2, -1), SpanKeeper.BAD);
        due("wrong source", keeper.plan(6, 0, 0), SpanKeeper.NONE);
        due("wrong source", keeper.plan(-2, 0, 0), SpanKeeper.NONE);
        due("wrong what", keeper.plan(0, 3, 0), SpanKeeper.NONE);
        due("wrong what", keeper.plan(0, -1, 0), SpanKeeper.NONE);
        due("wrong source ahead of v", keeper.plan(6, 0, 100), SpanKeeper.NONE);
        due("rows", keeper.count(2), 6);
        due("plan", keeper.plan(1, 0, 0), 7);
        due("plan", keeper.plan(1, 0, 0), 8);
        due("a ninth", keeper.plan(1, 0, 0), SpanKeeper.FULL);
        due("BAD ahead of FULL", keeper.plan(1, 0, 100), SpanKeeper.BAD);
        due("NONE ahead of FULL", keeper.plan(1, 3, 0), SpanKeeper.NONE);
        due("rows", keeper.count(2), 8);
        due("emptied", keeper.plan(-1, 77, 777), 0);
        due("rows", keeper.count(2), 0);
        due("plan", keeper.plan(1, 0, 0), 1);
    }

    private static void promise22Ends() {
        SpanKeeper keeper = with("a*b", "a*" + FOUR_NINES + "*99", SIX_NINES);
        Expect.stand(keeper, 0, 3, 20);
        Expect.stand(keeper, 1, 2, 0);
        due("without rows", keeper.ends(0), 80);
        due("its width is over", keeper.ends(1), OVER);
        keeper.plan(0, 2, 0);
        due("half no times", keeper.ends(0), 80);
        keeper.plan(0, 2, 3);
        due("20, 10, 5, 2", keeper.ends(0), 8);
        due("a long behind the plan", keeper.ends(1), 396 * FOUR_NINES_WORTH);
        keeper.plan(0, 1, 7);
        due("becomes 7", keeper.ends(0), 28);
        keeper.plan(0, 2, 1);
        due("in their order", keeper.ends(0), 12);
        keeper.plan(1, 0, -9);
        due("a value, too", keeper.ends(0), 54);
        keeper.plan(0, 2, 4);
        due("3, 1, 0, 0, 0", keeper.ends(0), 0);
        due("the sources stay", keeper.span(0, 2), 80);
        keeper.plan(0, 0, 99);
        due("over behind the plan", keeper.ends(1), OVER);
        due("over always", keeper.ends(2), OVER);
        due("none", keeper.ends(3), NO);
        due("none", keeper.ends(-1), NO);
        due("the sources stay", keeper.of(0, 0), 3);
    }

    private static void promise23Judge() {
        SpanKeeper keeper = with("a", "a+a", SIX_NINES, "b*" + FOUR_NINES + "*40");
        Expect.stand(keeper, 0, 50, 4);
        keeper.set(1, 1, 20);
        due("nothing there", keeper.judge(1), -11);
        due("none", keeper.judge(4), SpanKeeper.NONE);
        due("none", keeper.judge(-1), SpanKeeper.NONE);
        keeper.list(1, 0);
        due("an empty one", keeper.judge(1), -5);
        keeper.list(1, 2);
        due("all 0", keeper.judge(1), 0);
        keeper.put(1, 0, 8);
        due("one is right", keeper.judge(1), 1);
        keeper.put(1, 1, 16);
        due("all are right", keeper.judge(1), -5);
        keeper.list(1, 3);
        keeper.put(1, 0, 8);
        keeper.put(1, 1, 16);
        keeper.put(1, 2, OVER);
        due("one that is over", keeper.judge(1), 2);
        due("no way by that", keeper.way(-1), 0);
        keeper.drop();
        keeper.drop();
        due("no such formula", keeper.judge(1), 2);
        due("another list", keeper.judge(0), -11);
        keeper = with("b*" + FOUR_NINES + "*40");
        keeper.set(1, 1, 20);
        keeper.list(0, 1);
        keeper.put(0, 0, 1600 * FOUR_NINES_WORTH);
        due("a width alone that is over", keeper.judge(0), 0);
        keeper.put(0, 0, OVER);
        due("a width alone that is over", keeper.judge(0), 0);
        keeper = with("1", "2", "3", "4", "5", "6");
        keeper.list(3, 8);
        due("a seventh formula there is never", keeper.judge(3), 6);
    }

    private static void promise24List() {
        SpanKeeper keeper = new SpanKeeper();
        due("list", keeper.list(0, 8), 1);
        due("its last place", keeper.get(0, 7), 0);
        due("put", keeper.put(0, 7, 5), 1);
        due("too long", keeper.list(0, 9), SpanKeeper.BAD);
        due("too long", keeper.list(0, Integer.MAX_VALUE), SpanKeeper.BAD);
        due("below", keeper.list(0, -1), -14);
        due("below", keeper.list(0, Integer.MIN_VALUE), -14);
        due("none", keeper.list(4, 0), SpanKeeper.NONE);
        due("none", keeper.list(-1, 9), SpanKeeper.NONE);
        due("none ahead of below", keeper.list(4, -1), SpanKeeper.NONE);
        due("what is answered so changes nothing", keeper.get(0, 7), 5);
        due("list anew", keeper.list(0, 8), 1);
        due("all 0 again", keeper.get(0, 7), 0);
        due("list 3", keeper.list(3, 0), 1);
        due("an empty one", keeper.put(3, 0, 1), -13);
        due("shorter", keeper.list(0, 2), 1);
        due("no such place", keeper.get(0, 2), NO);
    }

    private static void promise25Put() {
        SpanKeeper keeper = new SpanKeeper();
        due("nothing there", keeper.put(2, 0, 1), -11);
        due("nothing there ahead of no place", keeper.put(2, 99, 1), -11);
        keeper.list(2, 3);
        due("put", keeper.put(2, 0, Long.MAX_VALUE), 1);
        due("put", keeper.put(2, 2, Long.MIN_VALUE), 1);
        due("beyond", keeper.put(2, 3, 1), -13);
        due("below", keeper.put(2, -1, 1), -13);
        due("none", keeper.put(4, 0, 1), SpanKeeper.NONE);
        due("none", keeper.put(-1, 0, 1), SpanKeeper.NONE);
        due("get", keeper.get(2, 0), Long.MAX_VALUE);
        due("get", keeper.get(2, 1), 0);
        due("get", keeper.get(2, 2), Long.MIN_VALUE);
    }

    private static void promise26Get() {
        SpanKeeper keeper = new SpanKeeper();
        keeper.list(1, 2);
        keeper.put(1, 1, -77);
        due("get", keeper.get(1, 1), -77);
        due("beyond", keeper.get(1, 2), NO);
        due("below", keeper.get(1, -1), NO);
        due("far below", keeper.get(1, -11), NO);
        due("nothing there", keeper.get(0, 0), NO);
        due("nothing there", keeper.get(0, -12), NO);
        due("none", keeper.get(4, 0), NO);
        due("none", keeper.get(-1, 0), NO);
    }

    private static void promise27And28ImageUndo() {
        SpanKeeper keeper = with("a", "a+b");
        Expect.stand(keeper, 0, 5, 2);
        keeper.set(0, 2, 9);
        keeper.plan(0, 1, 1);
        keeper.list(0, 1);
        keeper.feed('c');
        due("image", keeper.image(), 2);
        due("the tape stays", keeper.count(1), 1);
        Expect.stand(keeper, 0, 6, 3);
        keeper.set(0, 2, 8);
        keeper.plan(0, 1, 2);
        keeper.put(0, 0, 4);
        keeper.list(1, 1);
        due("c is read", keeper.formula(), 2);
        keeper.drop();
        keeper.drop();
        read(keeper, "a*a*a");
        keeper.feed('d');
        keeper.feed('+');
        due("undo", keeper.undo(), 2);
        due("value", keeper.of(0, 0), 5);
        due("span", keeper.of(0, 1), 2);
        due("cost", keeper.of(0, 2), 9);
        due("the plan", keeper.count(2), 1);
        due("the plan", keeper.ends(0), 2);
        due("formulas", keeper.count(0), 2);
        due("formulas", keeper.parts(1, 3), 3);
        due("lists stay", keeper.get(0, 0), 4);
        due("lists stay", keeper.get(1, 0), 0);
        due("the tape stays", keeper.count(1), 2);
        keeper.set(0, 0, 77);
        keeper.drop();
        keeper.drop();
        keeper.plan(-1, 0, 0);
        keeper.plan(1, 2, 4);
        due("undo again", keeper.undo(), 2);
        due("value", keeper.of(0, 0), 5);
        due("formulas", keeper.exact(0), 5);
        due("formulas", keeper.parts(1, 0), 3);
        due("the plan", keeper.count(2), 1);
        due("the plan's row", keeper.ends(0), 2);
        keeper.plan(-1, 0, 0);
        keeper.plan(0, 0, 9);
        keeper.undo();
        due("what the plan's row does", keeper.ends(0), 2);
        keeper.plan(-1, 0, 0);
        keeper.plan(0, 1, 9);
        keeper.undo();
        due("what it becomes", keeper.ends(0), 2);
        keeper.drop();
        due("another image", keeper.image(), 1);
        keeper.feed('1');
        due("d+1 is read", keeper.formula(), 1);
        due("undo", keeper.undo(), 1);
        SpanKeeper bare = new SpanKeeper();
        due("no image", bare.undo(), SpanKeeper.STATE);
        due("an image of nothing", bare.image(), 0);
        read(bare, "a");
        due("undo to nothing", bare.undo(), 0);
        due("no formulas", bare.count(0), 0);
    }

    private static void promise29Count() {
        SpanKeeper keeper = with("a", SIX_NINES, "a*" + FOUR_NINES + "*40", "-(" + SIX_NINES + ")");
        keeper.feed('a');
        keeper.feed('a');
        keeper.plan(0, 0, 1);
        keeper.plan(0, 0, 1);
        keeper.plan(0, 0, 1);
        keeper.set(0, 1, 20);
        keeper.set(3, 1, 1);
        keeper.set(5, 1, 1);
        keeper.set(2, 0, 9);
        due("formulas", keeper.count(0), 4);
        due("bytes", keeper.count(1), 2);
        due("rows", keeper.count(2), 3);
        due("over, without one of which the width alone is", keeper.count(3), 2);
        due("sources with a span", keeper.count(4), 3);
        due("the first one that is over counts", with(SIX_NINES, "a").count(3), 1);
        due("wrong", keeper.count(5), SpanKeeper.BAD);
        due("wrong", keeper.count(-1), SpanKeeper.BAD);
    }
}
