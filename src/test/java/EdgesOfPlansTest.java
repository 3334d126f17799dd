/** Edges of promises 19 to 22: values that fit, odds by draws, plans and where they end. */
public final class EdgesOfPlansTest extends Edges {
    private static final int[] WRONG_NUMBERS = {-1, 6, Integer.MIN_VALUE, Integer.MAX_VALUE};
    private static final String SIX = "a+b+c+d+e+f";

    public static void main(String[] args) {
        goThrough(EdgesOfPlansTest::new, 19, 22);
    }

    // ==== promise 19: fits

    private void fitsIs(SpanKeeper keeper, int source, long told, int many, int least) {
        due("fits(0, " + source + ", " + told + ", 0)", keeper.fits(0, source, told, 0), many);
        due("fits(0, " + source + ", " + told + ", 1)", keeper.fits(0, source, told, 1), least);
    }

    /** "VALUES (-99 .. 99) of a SOURCE" */
    void promise19ValuesFromLess99To99() {
        SpanKeeper keeper = with("a");
        fitsIs(keeper, 0, -99, 1, -99);
        fitsIs(keeper, 0, 99, 1, 99);
        fitsIs(keeper, 0, -100, 0, -1000);
        fitsIs(keeper, 0, 100, 0, -1000);
    }

    /** "neither below LOW nor above HIGH": LOW and HIGH themselves do */
    void promise19LowAndHighThemselvesFit() {
        SpanKeeper keeper = with("a");
        keeper.set(0, 1, 3);
        fitsIs(keeper, 0, 10, 7, 7);
        fitsIs(keeper, 0, 102, 1, 99);
        fitsIs(keeper, 0, 103, 0, -1000);
        fitsIs(keeper, 0, -102, 1, -99);
        fitsIs(keeper, 0, -103, 0, -1000);
        fitsIs(keeper, 0, -101, 2, -99);
    }

    /** "the least (1; -1000: none)" */
    void promise19NoneIsLess1000() {
        SpanKeeper keeper = with("a*0+5");
        fitsIs(keeper, 0, 4, 0, -1000);
        fitsIs(keeper, 0, 6, 0, -1000);
        fitsIs(keeper, 0, Long.MIN_VALUE, 0, -1000);
        fitsIs(keeper, 0, Long.MAX_VALUE, 0, -1000);
    }

    /** All 199 VALUES fit, also of a source that does not stand in the formula. */
    void promise19AllFit() {
        fitsIs(with("a*0+5"), 0, 5, 199, -99);
        SpanKeeper keeper = with("b");
        keeper.set(1, 0, 5);
        fitsIs(keeper, 0, 5, 199, -99);
        fitsIs(keeper, 0, 6, 0, -1000);
        fitsIs(keeper, 5, 5, 199, -99);
        fitsIs(keeper, 1, 5, 1, 5);
    }

    /** Values that fit need not lie side by side. */
    void promise19ValuesApart() {
        fitsIs(with("a*a"), 0, 4, 2, -2);
        fitsIs(with("a*a*a-a"), 0, 0, 3, -1);
    }

    /** "were it its own": the SPAN stays, others stand as they do, its VALUE does not matter */
    void promise19OthersStandAsTheyDo() {
        SpanKeeper keeper = with("a+b");
        stand(keeper, 0, 77, 2);
        stand(keeper, 1, 5, 1);
        // v + 2 .. v + 8
        fitsIs(keeper, 0, 0, 7, -8);
        // v + 74 .. v + 80
        fitsIs(keeper, 1, 0, 7, -80);
    }

    /** "(one that is OVER doesn't)": whatever is told */
    void promise19OneThatIsOverDoesNot() {
        SpanKeeper keeper = with("a*" + TWO62);
        fitsIs(keeper, 0, TWO62_WORTH, 1, 1);
        fitsIs(keeper, 0, Long.MIN_VALUE, 1, -2);
        fitsIs(keeper, 0, Long.MAX_VALUE, 0, -1000);
        fitsIs(keeper, 0, Long.MIN_VALUE + 1, 0, -1000);
        keeper.set(0, 1, 1);
        // by -1 from -2 to 0, by 0 from -1 to 1, over by all others
        fitsIs(keeper, 0, 0, 2, -1);
        fitsIs(keeper, 0, TWO62_WORTH, 1, 0);
        fitsIs(keeper, 0, Long.MIN_VALUE, 1, -1);
        fitsIs(with(TOO_GREAT), 0, 0, 0, -1000);
    }

    /** "FITS goes through all VALUES, also where the FORMULA is OVER now." */
    void promise19AlsoWhereItIsOverNow() {
        SpanKeeper keeper = with("a*" + TWO62);
        keeper.set(0, 0, 50);
        due("span(0, 0)", keeper.span(0, 0), OVER);
        fitsIs(keeper, 0, TWO62_WORTH, 1, 1);
        fitsIs(keeper, 0, Long.MIN_VALUE, 1, -2);
        fitsIs(keeper, 1, 0, 0, -1000);
    }

    /** "a told number": both ends of a long are like others */
    void promise19ToldAtTheLongsEnds() {
        fitsIs(with(GREATEST), 0, Long.MAX_VALUE, 199, -99);
        fitsIs(with(GREATEST), 0, Long.MAX_VALUE - 1, 0, -1000);
        fitsIs(with(LEAST), 0, Long.MIN_VALUE, 199, -99);
        fitsIs(with(LEAST), 0, Long.MIN_VALUE + 1, 0, -1000);
    }

    /** "how many (what 0), the least (1). NONE: formula, source, what." */
    void promise19WrongNumbersAreNone() {
        SpanKeeper keeper = with("a");
        for (int wrong : WRONG_NUMBERS) {
            due("formula " + wrong, keeper.fits(wrong, 0, 0, 0), -1);
            due("source " + wrong, keeper.fits(0, wrong, 0, 0), -1);
            due("what " + wrong, keeper.fits(0, 0, 0, wrong), -1);
        }
        due("formula 1", keeper.fits(1, 0, 0, 0), -1);
        due("what 2", keeper.fits(0, 0, 0, 2), -1);
        due("none wrong", keeper.fits(0, 0, 0, 0), 1);
    }

    /** "what is asked changes nothing": the VALUE is its own again */
    void promise19AskedChangesNothing() {
        unchangedBy(keeper -> {
            for (int source = -1; source < 7; source++) {
                keeper.fits(0, source, 5, 0);
                keeper.fits(3, source, 5, 1);
            }
            due("fits(2, 4, 0, 0)", keeper.fits(2, 4, 0, 0), 2);
        });
    }

    // ==== promise 20: odds

    private void oddsIs(SpanKeeper keeper, int seed, int m, long low, long high, long above, long below) {
        String call = "odds(0, " + seed + ", " + m + ", " + low + ", " + high + ", ";
        due(call + "0)", keeper.odds(0, seed, m, low, high, 0), above);
        due(call + "1)", keeper.odds(0, seed, m, low, high, 1), below);
    }

    private SpanKeeper withSpans(String text, int... spans) {
        SpanKeeper keeper = with(text);
        for (int source = 0; source < spans.length; source++) {
            keeper.set(source, 1, spans[source]);
        }
        return keeper;
    }

    /** "of m SEEDS (1 .. 30)"; "NO: formula, m, part" */
    void promise20MFrom1To30() {
        SpanKeeper keeper = with("a", TOO_GREAT);
        oddsIs(keeper, 7, 1, 0, 0, 1, 1);
        oddsIs(keeper, 7, 30, 0, 0, 1, 1);
        for (int m : new int[] {0, 31, -1, Integer.MIN_VALUE, Integer.MAX_VALUE}) {
            oddsIs(keeper, 7, m, 0, 0, NO, NO);
            due("m " + m + ", over", keeper.odds(1, 7, m, 0, 0, 0), NO);
        }
    }

    /** "part 0 is above, 1 below the line of a fraction in lowest terms" */
    void promise20InLowestTerms() {
        SpanKeeper keeper = withSpans("a", 20);
        // by seeds 1 to 9: 8, -14, 15, -7, -20, 0, -13, 6, -7
        oddsIs(keeper, 1, 9, 0, 15, 4, 9);
        oddsIs(keeper, 1, 9, 6, 15, 1, 3);
        oddsIs(keeper, 1, 9, -14, 8, 7, 9);
        oddsIs(keeper, 1, 8, 0, 15, 1, 2);
        oddsIs(keeper, 1, 8, 6, 8, 1, 4);
        oddsIs(keeper, 1, 8, -14, 15, 7, 8);
        oddsIs(keeper, 1, 8, -14, 8, 3, 4);
    }

    /** In lowest terms: none of them is 0 by 1, all of them 1 by 1 */
    void promise20NoneAndAll() {
        SpanKeeper keeper = withSpans("a", 20);
        for (int m = 1; m <= 30; m++) {
            oddsIs(keeper, 1, m, 21, 99, 0, 1);
            oddsIs(keeper, 1, m, -20, 20, 1, 1);
        }
    }

    /** "ODDS of a low end above the high one are 0 by 1." */
    void promise20LowAboveHighIs0By1() {
        SpanKeeper keeper = withSpans("a", 20);
        oddsIs(keeper, 1, 30, 20, -20, 0, 1);
        oddsIs(keeper, 1, 1, 9, 7, 0, 1);
        oddsIs(keeper, 1, 7, Long.MAX_VALUE, Long.MIN_VALUE, 0, 1);
        oddsIs(keeper, 1, 30, 1, 0, 0, 1);
    }

    /** "neither below a told number nor above another one": both themselves count */
    void promise20BothEndsCount() {
        SpanKeeper keeper = withSpans("a", 20);
        oddsIs(keeper, 1, 1, 8, 8, 1, 1);
        oddsIs(keeper, 1, 1, 8, 20, 1, 1);
        oddsIs(keeper, 1, 1, -20, 8, 1, 1);
        oddsIs(keeper, 1, 1, 9, 20, 0, 1);
        oddsIs(keeper, 1, 1, -20, 7, 0, 1);
    }

    /** "a told number": the ends of a long */
    void promise20ToldAtTheLongsEnds() {
        SpanKeeper keeper = withSpans("a", 20);
        oddsIs(keeper, 1, 9, Long.MIN_VALUE, Long.MAX_VALUE, 1, 1);
        oddsIs(keeper, 1, 1, Long.MIN_VALUE, 7, 0, 1);
        oddsIs(keeper, 1, 1, 9, Long.MAX_VALUE, 0, 1);
        oddsIs(with(GREATEST), 1, 2, Long.MAX_VALUE, Long.MAX_VALUE, 1, 1);
        oddsIs(with(LEAST), 1, 2, Long.MIN_VALUE, Long.MIN_VALUE, 1, 1);
    }

    /** "all six SOURCES by numbers": z goes on from one to the next */
    void promise20AllSixByNumbers() {
        int[] drawn = {8, -2, 7, -12, -6, -10};
        for (int source = 0; source < 6; source++) {
            SpanKeeper keeper = withSpans(String.valueOf((char) ('a' + source)), 20, 20, 20, 20, 20, 20);
            oddsIs(keeper, 1, 1, drawn[source], drawn[source], 1, 1);
        }
        oddsIs(withSpans(SIX, 20, 20, 20, 20, 20, 20), 1, 1, -15, -15, 1, 1);
    }

    /** "Where a SPAN is 0, z goes on all the same." */
    void promise20ZGoesOnWhereASpanIs0() {
        oddsIs(withSpans("f", 0, 0, 0, 0, 0, 20), 1, 1, -10, -10, 1, 1);
        oddsIs(withSpans("b", 0, 20), 1, 1, -2, -2, 1, 1);
        oddsIs(withSpans("d", 20, 0, 20, 20), 1, 1, -12, -12, 1, 1);
    }

    /** "a DRAW below (twice its SPAN, and 1 more)": each by its own SPAN, of 0 always 0 */
    void promise20DrawBelowTwiceTheSpanAnd1() {
        int[] spans = {20, 3, 0, 1, 7, 19};
        int[] drawn = {8, 1, 0, 0, -6, -8};
        for (int source = 0; source < 6; source++) {
            SpanKeeper keeper = withSpans(String.valueOf((char) ('a' + source)), spans);
            oddsIs(keeper, 1, 1, drawn[source], drawn[source], 1, 1);
        }
        oddsIs(with("c"), 1, 30, 0, 0, 1, 1);
    }

    /** From LOW to HIGH: each of both is drawn, none beyond */
    void promise20FromLowToHigh() {
        SpanKeeper keeper = withSpans("a", 1);
        // by seeds 0 to 8: -1, 1, 1, 1, 1, 0, 1, 0, 0
        oddsIs(keeper, 0, 9, -1, -1, 1, 9);
        oddsIs(keeper, 0, 9, 0, 0, 1, 3);
        oddsIs(keeper, 0, 9, 1, 1, 5, 9);
        oddsIs(keeper, 0, 30, -1, 1, 1, 1);
        oddsIs(keeper, 0, 30, 2, 99, 0, 1);
        oddsIs(keeper, 0, 30, -99, -2, 0, 1);
    }

    /** "each at LOW, and a DRAW more" */
    void promise20AtLowAndTheDrawMore() {
        SpanKeeper keeper = withSpans("a", 20);
        keeper.set(0, 0, 99);
        oddsIs(keeper, 1, 1, 107, 107, 1, 1);
        keeper.set(0, 0, -99);
        oddsIs(keeper, 1, 1, -91, -91, 1, 1);
        // by seed 0 the draw is 0
        oddsIs(keeper, 0, 1, -119, -119, 1, 1);
    }

    /** "SEED and each 1 more (an int)": behind the greatest int comes the least */
    void promise20SeedsGoOnBehindTheGreatestInt() {
        SpanKeeper keeper = withSpans("a+100*b", 20, 20);
        // 1 and 2, then -20 and 5, then (by the least int and 1) 8 and -2
        oddsIs(keeper, Integer.MAX_VALUE, 1, 201, 201, 1, 1);
        oddsIs(keeper, Integer.MAX_VALUE, 2, 480, 480, 1, 2);
        oddsIs(keeper, Integer.MAX_VALUE, 3, -192, -192, 1, 3);
        oddsIs(keeper, Integer.MIN_VALUE, 1, 480, 480, 1, 1);
        oddsIs(keeper, Integer.MIN_VALUE + 1, 1, -192, -192, 1, 1);
    }

    /** "z without its sign's bit": of seeds below 0, of z's below 0 */
    void promise20ZWithoutItsSign() {
        SpanKeeper keeper = withSpans("a+100*b", 20, 20);
        oddsIs(keeper, -1, 1, 201, 201, 1, 1);
        oddsIs(keeper, -2, 1, 782, 782, 1, 1);
        oddsIs(keeper, -2, 3, 201, 782, 1, 1);
        oddsIs(keeper, 0, 1, 480, 480, 1, 1);
    }

    /** "OVER as SPANNED": though by all draws it is a long */
    void promise20OverAsSpanned() {
        SpanKeeper keeper = with("a*" + TWO62 + "-a*" + TWO62);
        keeper.set(0, 1, 1);
        oddsIs(keeper, 1, 1, 0, 0, OVER, OVER);
        keeper.set(0, 1, 0);
        oddsIs(keeper, 1, 1, 0, 0, 1, 1);
    }

    /** "OVER as SPANNED": a WIDTH that alone is no long does not matter */
    void promise20WidthAloneDoesNotMatter() {
        SpanKeeper keeper = with("a*" + TWO62);
        keeper.set(0, 1, 1);
        // by seed 0 the draw is -1, by 1 it is 1
        oddsIs(keeper, 0, 1, -TWO62_WORTH, -TWO62_WORTH, 1, 1);
        oddsIs(keeper, 1, 1, TWO62_WORTH, TWO62_WORTH, 1, 1);
    }

    /** "NO: formula, m, part": ahead of OVER */
    void promise20WrongNumbersAreNo() {
        SpanKeeper keeper = with("a", TOO_GREAT);
        for (int wrong : WRONG_NUMBERS) {
            due("formula " + wrong, keeper.odds(wrong, 1, 1, 0, 0, 0), NO);
            due("part " + wrong, keeper.odds(0, 1, 1, 0, 0, wrong), NO);
            due("part " + wrong + ", over", keeper.odds(1, 1, 1, 0, 0, wrong), NO);
        }
        due("part 2", keeper.odds(0, 1, 1, 0, 0, 2), NO);
        due("formula 2", keeper.odds(2, 1, 1, 0, 0, 0), NO);
        due("over", keeper.odds(1, 1, 1, 0, 0, 0), OVER);
    }

    /** "what is asked changes nothing": the same seed draws the same again */
    void promise20AskedChangesNothing() {
        unchangedBy(keeper -> {
            for (int m = 0; m < 32; m++) {
                keeper.odds(0, m, m, -9, 9, 0);
            }
            long first = keeper.odds(1, 5, 30, 0, 9, 0);
            due("the same again", keeper.odds(1, 5, 30, 0, 9, 0), first);
        });
    }

    // ==== promise 21: plan

    /** "ROWS told by hand (8 at most)"; "FULL" */
    void promise21EightRowsAtMost() {
        SpanKeeper keeper = new SpanKeeper();
        for (int rows = 1; rows <= 8; rows++) {
            due("plan(0, 0, 1)", keeper.plan(0, 0, 1), rows);
        }
        due("a ninth", keeper.plan(0, 0, 1), -4);
        due("count(2)", keeper.count(2), 8);
        due("plan(-1, 0, 0)", keeper.plan(-1, 0, 0), 0);
        for (int rows = 1; rows <= 8; rows++) {
            due("plan(5, 2, 4)", keeper.plan(5, 2, 4), rows);
        }
        due("a ninth", keeper.plan(5, 2, 4), -4);
    }

    /** "(source -1: it is empty then, what and v do not matter, 0)" */
    void promise21SourceLess1EmptiesIt() {
        SpanKeeper keeper = new SpanKeeper();
        due("empty already", keeper.plan(-1, 0, 0), 0);
        for (int wrong : new int[] {-1, 3, 100, Integer.MIN_VALUE, Integer.MAX_VALUE}) {
            due("a row", keeper.plan(0, 1, 5), 1);
            due("plan(-1, " + wrong + ", " + wrong + ")", keeper.plan(-1, wrong, wrong), 0);
            due("count(2)", keeper.count(2), 0);
        }
    }

    /** Rows of a plan that was emptied are no more, also as others come. */
    void promise21EmptiedRowsAreNoMore() {
        SpanKeeper keeper = withSpans("a", 20);
        keeper.plan(0, 1, 3);
        keeper.plan(0, 2, 1);
        keeper.plan(-1, 0, 0);
        due("ends(0)", keeper.ends(0), 40);
        keeper.plan(1, 0, 0);
        due("ends(0)", keeper.ends(0), 40);
    }

    /** "0 its VALUE becomes v (-99 .. 99)" */
    void promise21ValuesFromLess99To99() {
        SpanKeeper keeper = new SpanKeeper();
        due("plan(0, 0, -99)", keeper.plan(0, 0, -99), 1);
        due("plan(0, 0, 99)", keeper.plan(0, 0, 99), 2);
        for (int v : new int[] {-100, 100, Integer.MIN_VALUE, Integer.MAX_VALUE}) {
            due("plan(0, 0, " + v + ")", keeper.plan(0, 0, v), -2);
        }
    }

    /** "1 its SPAN becomes v (0 .. 20)" */
    void promise21SpansFrom0To20() {
        SpanKeeper keeper = new SpanKeeper();
        due("plan(0, 1, 0)", keeper.plan(0, 1, 0), 1);
        due("plan(0, 1, 20)", keeper.plan(0, 1, 20), 2);
        for (int v : new int[] {-1, 21, Integer.MIN_VALUE, Integer.MAX_VALUE}) {
            due("plan(0, 1, " + v + ")", keeper.plan(0, 1, v), -2);
        }
    }

    /** "2 its SPAN is half (cut), and so again, v times (0 .. 4)" */
    void promise21TimesFrom0To4() {
        SpanKeeper keeper = new SpanKeeper();
        due("plan(0, 2, 0)", keeper.plan(0, 2, 0), 1);
        due("plan(0, 2, 4)", keeper.plan(0, 2, 4), 2);
        for (int v : new int[] {-1, 5, 32, Integer.MIN_VALUE, Integer.MAX_VALUE}) {
            due("plan(0, 2, " + v + ")", keeper.plan(0, 2, v), -2);
        }
    }

    /** "NONE: source, what" */
    void promise21SourcesAndWhats() {
        SpanKeeper keeper = new SpanKeeper();
        due("plan(5, 0, 0)", keeper.plan(5, 0, 0), 1);
        for (int source : new int[] {-2, 6, Integer.MIN_VALUE, Integer.MAX_VALUE}) {
            due("plan(" + source + ", 0, 0)", keeper.plan(source, 0, 0), -1);
        }
        for (int what : new int[] {-1, 3, Integer.MIN_VALUE, Integer.MAX_VALUE}) {
            due("plan(0, " + what + ", 0)", keeper.plan(0, what, 0), -1);
        }
        due("count(2)", keeper.count(2), 1);
    }

    /** "the first that a call's words name": NONE; BAD; FULL */
    void promise21NoneAheadOfBadAheadOfFull() {
        SpanKeeper keeper = full();
        due("plan(6, 0, 100)", keeper.plan(6, 0, 100), -1);
        due("plan(0, 3, 100)", keeper.plan(0, 3, 100), -1);
        due("plan(0, 0, 100)", keeper.plan(0, 0, 100), -2);
        due("plan(0, 1, 21)", keeper.plan(0, 1, 21), -2);
        due("plan(0, 2, 5)", keeper.plan(0, 2, 5), -2);
        due("plan(0, 2, 4)", keeper.plan(0, 2, 4), -4);
    }

    /** "What is answered so changes nothing": NONE, BAD */
    void promise21RefusedChangesNothing() {
        unchangedBy(keeper -> {
            due("plan(6, 0, 0)", keeper.plan(6, 0, 0), -1);
            due("plan(-2, 0, 0)", keeper.plan(-2, 0, 0), -1);
            due("plan(0, 3, 0)", keeper.plan(0, 3, 0), -1);
            due("plan(0, 0, 100)", keeper.plan(0, 0, 100), -2);
        });
    }

    /** "What is answered so changes nothing": FULL */
    void promise21FullChangesNothing() {
        unchangedBy(Edges::full, keeper -> due("plan(1, 1, 0)", keeper.plan(1, 1, 0), -4));
    }

    // ==== promise 22: ends

    /** A plan without rows ends as SPANNED. */
    void promise22WithoutRows() {
        SpanKeeper keeper = withSpans("a-b", 20, 3);
        due("ends(0)", keeper.ends(0), 46);
    }

    /** "its SPAN is half (cut), and so again, v times": 0 times nothing */
    void promise22HalfVTimes() {
        int[][] widths = {{40, 20, 10, 4, 2}, {38, 18, 8, 4, 2}, {30, 14, 6, 2, 0}, {2, 0, 0, 0, 0}, {0, 0, 0, 0, 0}};
        int[] spans = {20, 19, 15, 1, 0};
        for (int i = 0; i < spans.length; i++) {
            for (int times = 0; times <= 4; times++) {
                SpanKeeper keeper = withSpans("a", spans[i]);
                keeper.plan(0, 2, times);
                due("ends of span " + spans[i] + ", half " + times + " times", keeper.ends(0), widths[i][times]);
            }
        }
    }

    /** "behind all of it": rows one after the other, also of the same source */
    void promise22RowsInTheirOrder() {
        SpanKeeper keeper = withSpans("a", 20);
        keeper.plan(0, 1, 7);
        keeper.plan(0, 2, 1);
        due("7, then half", keeper.ends(0), 6);
        keeper.plan(-1, 0, 0);
        keeper.plan(0, 2, 1);
        keeper.plan(0, 1, 7);
        due("half, then 7", keeper.ends(0), 14);
        keeper.plan(0, 2, 1);
        keeper.plan(0, 2, 1);
        due("half and half", keeper.ends(0), 2);
    }

    /** "behind all of it": the eighth row, too */
    void promise22BehindAllEightRows() {
        SpanKeeper keeper = withSpans(SIX, 1, 1, 1, 1, 1, 1);
        for (int source = 0; source < 6; source++) {
            keeper.plan(source, 1, 2);
        }
        due("behind six", keeper.ends(0), 24);
        keeper.plan(0, 1, 10);
        keeper.plan(5, 1, 20);
        due("behind eight", keeper.ends(0), 76);
    }

    /** "its VALUE becomes v" */
    void promise22ValueBecomesV() {
        SpanKeeper keeper = withSpans("a*b", 1);
        keeper.set(1, 0, 5);
        keeper.plan(1, 0, -99);
        due("ends(0)", keeper.ends(0), 198);
        keeper.plan(1, 0, 0);
        due("ends(0)", keeper.ends(0), 0);
    }

    /** "in thought": the sources stand as they stood */
    void promise22InThought() {
        SpanKeeper keeper = withSpans("a", 20);
        keeper.plan(0, 1, 3);
        keeper.plan(0, 0, 9);
        due("ends(0)", keeper.ends(0), 6);
        due("span(0, 2)", keeper.span(0, 2), 40);
        due("of(0, 0)", keeper.of(0, 0), 0);
        due("of(0, 1)", keeper.of(0, 1), 20);
    }

    /** The plan is gone through from where the sources stand now. */
    void promise22FromWhereSourcesStandNow() {
        SpanKeeper keeper = withSpans("a", 20);
        keeper.plan(0, 2, 1);
        due("ends(0)", keeper.ends(0), 20);
        keeper.set(0, 1, 4);
        due("ends(0)", keeper.ends(0), 4);
    }

    /** "NO: formula; OVER.": as it is behind the plan, though it is not now */
    void promise22OverBehindThePlan() {
        SpanKeeper keeper = with("a*" + TWO62);
        keeper.plan(0, 0, 2);
        due("span(0, 2)", keeper.span(0, 2), 0);
        due("ends(0)", keeper.ends(0), OVER);
    }

    /** "OVER": WIDTH alone, behind the plan */
    void promise22WidthAloneOverBehindThePlan() {
        SpanKeeper keeper = with("a*" + TWO62);
        keeper.plan(0, 1, 1);
        due("ends(0)", keeper.ends(0), OVER);
        due("way(-1)", keeper.way(-1), 0);
    }

    /** ENDS is the WIDTH behind the plan, though it is OVER now. */
    void promise22ALongBehindThePlanThoughOverNow() {
        SpanKeeper keeper = with("a*" + TWO62);
        stand(keeper, 0, 50, 20);
        due("span(0, 2)", keeper.span(0, 2), OVER);
        keeper.plan(0, 0, 1);
        keeper.plan(0, 1, 0);
        due("ends(0)", keeper.ends(0), 0);
        due("one that is over always", with(TOO_GREAT).ends(0), OVER);
    }

    /** "NO: formula" */
    void promise22NoSuchFormulaIsNo() {
        SpanKeeper keeper = with("a", "b");
        keeper.drop();
        for (int formula : WRONG_NUMBERS) {
            due("ends(" + formula + ")", keeper.ends(formula), NO);
        }
        due("ends(1)", keeper.ends(1), NO);
    }

    /** "what is asked changes nothing" */
    void promise22AskedChangesNothing() {
        unchangedBy(keeper -> {
            for (int formula = -1; formula < 5; formula++) {
                keeper.ends(formula);
            }
            due("ends(3)", keeper.ends(3), OVER);
        });
    }
}
