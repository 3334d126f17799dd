/** Edges of promises 9 to 14: spans, the way, what a formula is worth, corners, by what it rises, tight. */
public final class EdgesOfSpansTest extends Edges {
    private static final String TWO61 = "8192*8192*8192*8192*512";

    public static void main(String[] args) {
        goThrough(EdgesOfSpansTest::new, 9, 14);
    }

    // ==== promise 9: span

    /** "a letter as its SOURCE": LOW and HIGH may lie beyond -99 and 99 */
    void promise9LetterFromItsLowToItsHigh() {
        SpanKeeper keeper = with("a", "b", "c");
        stand(keeper, 0, -99, 20);
        stand(keeper, 1, 99, 20);
        spanIs(keeper, 0, -119, -79, 40);
        spanIs(keeper, 1, 79, 119, 40);
        spanIs(keeper, 2, 0, 0, 0);
    }

    /** "a number as it is" */
    void promise9NumberAsItIs() {
        SpanKeeper keeper = with("0", "9999");
        stand(keeper, 0, 5, 20);
        spanIs(keeper, 0, 0, 0, 0);
        spanIs(keeper, 1, 9999, 9999, 0);
    }

    /** "-F: less HIGH, less LOW of F" */
    void promise9LessHighLessLow() {
        SpanKeeper keeper = with("-a", "--a");
        stand(keeper, 0, 2, 5);
        spanIs(keeper, 0, -7, 3, 10);
        spanIs(keeper, 1, -3, 7, 10);
    }

    /** "a sum: both LOWS, both HIGHS, together" */
    void promise9SumOfBoth() {
        SpanKeeper keeper = with("a+b");
        stand(keeper, 0, 2, 5);
        stand(keeper, 1, -10, 1);
        spanIs(keeper, 0, -14, -2, 12);
    }

    /** "LOW of the first less HIGH of the second, HIGH of the first less LOW of the second": of itself, too */
    void promise9DifferenceOfOppositeEnds() {
        SpanKeeper keeper = with("a-b", "a-a");
        stand(keeper, 0, 2, 5);
        stand(keeper, 1, -10, 1);
        spanIs(keeper, 0, 6, 18, 12);
        spanIs(keeper, 1, -10, 10, 20);
    }

    /** "the least, the greatest of the four products": each of them may be the one or the other */
    void promise9LeastAndGreatestOfFourProducts() {
        productIs(2, 4, 3, 5, 6, 20);
        productIs(-4, -2, 3, 5, -20, -6);
        productIs(2, 4, -5, -3, -20, -6);
        productIs(-4, -2, -5, -3, 6, 20);
        productIs(-1, 3, -4, 2, -12, 6);
        productIs(-3, 1, -2, 4, -12, 6);
        productIs(-5, 1, -3, 1, -5, 15);
        productIs(-1, 5, -1, 3, -5, 15);
        productIs(0, 2, -1, 1, -2, 2);
        productIs(0, 0, -4, 2, 0, 0);
    }

    private void productIs(int low, int high, int otherLow, int otherHigh, long least, long greatest) {
        SpanKeeper keeper = with("c*d");
        stand(keeper, 2, (low + high) / 2, (high - low) / 2);
        stand(keeper, 3, (otherLow + otherHigh) / 2, (otherHigh - otherLow) / 2);
        spanIs(keeper, 0, least, greatest, greatest - least);
    }

    /** Holds for the text, a and b from low to high, whether the formula is over, at all its ends. */
    private void overIs(String text, int aLow, int aHigh, int bLow, int bHigh, boolean over) {
        SpanKeeper keeper = with(text);
        stand(keeper, 0, (aLow + aHigh) / 2, (aHigh - aLow) / 2);
        stand(keeper, 1, (bLow + bHigh) / 2, (bHigh - bLow) / 2);
        due("count(3) of " + text, keeper.count(3), over ? 1 : 0);
        if (over) {
            spanIs(keeper, 0, OVER, OVER, OVER);
        }
        keeper.span(0, 0);
        due("a way of " + text, keeper.way(-1) > 0 ? 1 : 0, over ? 1 : 0);
    }

    /** "OVER is a PART, one number of which is no long": a sum past the greatest long */
    void promise9SumPastTheGreatestLong() {
        SpanKeeper keeper = with(GREATEST, GREATEST + "+1");
        spanIs(keeper, 0, Long.MAX_VALUE, Long.MAX_VALUE, 0);
        spanIs(keeper, 1, OVER, OVER, OVER);
        overIs(GREATEST + "+a", 0, 0, 0, 0, false);
        overIs(GREATEST + "+a", 1, 1, 0, 0, true);
        overIs(GREATEST + "+a", -2, 0, 0, 0, false);
        overIs(GREATEST + "+a", -1, 1, 0, 0, true);
        overIs("a+(" + GREATEST + ")", -1, 1, 0, 0, true);
    }

    /** "OVER is a PART, one number of which is no long": a sum below the least long */
    void promise9SumBelowTheLeastLong() {
        SpanKeeper keeper = with(LEAST, LEAST + "+-1");
        spanIs(keeper, 0, Long.MIN_VALUE, Long.MIN_VALUE, 0);
        spanIs(keeper, 1, OVER, OVER, OVER);
        overIs(LEAST + "+a", 0, 0, 0, 0, false);
        overIs(LEAST + "+a", -1, -1, 0, 0, true);
        overIs(LEAST + "+a", 0, 2, 0, 0, false);
        overIs(LEAST + "+a", -1, 1, 0, 0, true);
        overIs("a+" + LEAST, -1, 1, 0, 0, true);
        overIs("a+" + LEAST, 0, 0, 0, 0, false);
        overIs("a*" + TWO62 + "+b*" + TWO62, -1, -1, -1, -1, false);
        overIs("a*" + TWO62 + "+b*" + TWO62, -2, -2, -1, -1, true);
    }

    /** "OVER is a PART, one number of which is no long": a difference below the least long */
    void promise9DifferenceBelowTheLeastLong() {
        overIs(LEAST + "-1", 0, 0, 0, 0, true);
        overIs(LEAST + "-a", 0, 0, 0, 0, false);
        overIs(LEAST + "-a", 1, 1, 0, 0, true);
        overIs(LEAST + "-a", -2, 0, 0, 0, false);
        overIs(LEAST + "-a", -1, 1, 0, 0, true);
        overIs("a-(" + GREATEST + ")", -1, -1, 0, 0, false);
        overIs("a-(" + GREATEST + ")", -2, -2, 0, 0, true);
    }

    /** "OVER is a PART, one number of which is no long": a difference past the greatest long */
    void promise9DifferencePastTheGreatestLong() {
        overIs(GREATEST + "-a", 0, 0, 0, 0, false);
        overIs(GREATEST + "-a", -1, -1, 0, 0, true);
        overIs(GREATEST + "-a", 0, 2, 0, 0, false);
        overIs(GREATEST + "-a", -1, 1, 0, 0, true);
        overIs("a-" + LEAST, -1, -1, 0, 0, false);
        overIs("a-" + LEAST, 0, 0, 0, 0, true);
        overIs("a-" + LEAST, -3, -1, 0, 0, false);
        overIs("a-" + LEAST, -2, 0, 0, 0, true);
    }

    /** "-F: less HIGH, less LOW": less the least long is none */
    void promise9LessTheLeastLong() {
        overIs("-(" + LEAST + ")", 0, 0, 0, 0, true);
        overIs("-(" + LEAST + "+1)", 0, 0, 0, 0, false);
        overIs("-(" + GREATEST + ")", 0, 0, 0, 0, false);
        overIs("-(a*" + TWO62 + ")", -2, 0, 0, 0, true);
        overIs("-(" + LEAST + "+a)", 0, 2, 0, 0, true);
        overIs("-(" + LEAST + "+a)", 1, 3, 0, 0, false);
    }

    /** "(the four products with it)": each of them alone may be no long */
    void promise9EachOfTheFourProducts() {
        String text = "a*(b*" + TWO61 + ")";
        overIs(text, -2, 0, -2, 0, true);
        overIs(text, -2, 0, 0, 2, false);
        overIs(text, -3, -1, 0, 2, true);
        overIs(text, 0, 2, 0, 2, true);
        overIs(text, 0, 2, -2, 0, false);
        overIs(text, 1, 3, -2, 0, true);
        overIs(text, -1, 1, -2, 2, false);
    }

    /** A product that is just a long, and just none; by 0, 1 and -1 */
    void promise9ProductAtTheLongsEnds() {
        String least = "a*(" + LEAST + ")";
        overIs(least, 0, 0, 0, 0, false);
        overIs(least, 1, 1, 0, 0, false);
        overIs(least, -1, -1, 0, 0, true);
        overIs(least, 2, 2, 0, 0, true);
        overIs(least, -1, 1, 0, 0, true);
        overIs("-8192*8192*8192*8192*2048*a", -1, -1, 0, 0, true);
        overIs("-8192*8192*8192*8192*2048*a", 1, 1, 0, 0, false);
        String greatest = "a*(" + GREATEST + ")";
        overIs(greatest, -1, 1, 0, 0, false);
        overIs(greatest, 2, 2, 0, 0, true);
        overIs(greatest, -2, -2, 0, 0, true);
        overIs("a*" + TWO62, 1, 1, 0, 0, false);
        overIs("a*" + TWO62, 2, 2, 0, 0, true);
        overIs("a*" + TWO62, -2, -2, 0, 0, false);
        overIs("a*" + TWO62, -3, -3, 0, 0, true);
    }

    /** "or that is made of one that is OVER": whatever it is made into */
    void promise9MadeOfOneThatIsOver() {
        overIs(TOO_GREAT + "*0", 0, 0, 0, 0, true);
        overIs("0*(" + TOO_GREAT + ")", 0, 0, 0, 0, true);
        overIs(TOO_GREAT + "+a", 0, 0, 0, 0, true);
        overIs("a+" + TOO_GREAT, 0, 0, 0, 0, true);
        overIs(TOO_GREAT + "-a", 0, 0, 0, 0, true);
        overIs("a-" + TOO_GREAT, 0, 0, 0, 0, true);
        overIs("-(" + TOO_GREAT + ")", 0, 0, 0, 0, true);
        overIs("-(" + TOO_GREAT + ")+" + TOO_GREAT, 0, 0, 0, 0, true);
        overIs(GREATEST + "+1-1", 0, 0, 0, 0, true);
    }

    /** "WIDTH: HIGH less LOW (OVER, too, if it is no long)": LOW and HIGH are told all the same */
    void promise9WidthAloneIsNoLong() {
        SpanKeeper keeper = with("a*" + TWO62);
        stand(keeper, 0, 0, 1);
        spanIs(keeper, 0, -TWO62_WORTH, TWO62_WORTH, OVER);
        due("count(3)", keeper.count(3), 0);
    }

    /** "WIDTH (OVER, too, if it is no long)": the greatest one that is a long */
    void promise9GreatestWidth() {
        // both ends of a span are odd or both are even, so no width is the greatest long itself
        SpanKeeper keeper = with("a*(" + TWO62 + "-1)");
        stand(keeper, 0, 0, 1);
        spanIs(keeper, 0, 1 - TWO62_WORTH, TWO62_WORTH - 1, Long.MAX_VALUE - 1);
    }

    /** "LOW (end 0), HIGH (1), WIDTH (2). NO: formula, end" */
    void promise9EndsFrom0To2() {
        SpanKeeper keeper = with("a", TOO_GREAT);
        stand(keeper, 0, 3, 2);
        spanIs(keeper, 0, 1, 5, 4);
        for (int end : new int[] {-1, 3, Integer.MIN_VALUE, Integer.MAX_VALUE}) {
            due("span(0, " + end + ")", keeper.span(0, end), NO);
            due("span(1, " + end + "), ahead of OVER", keeper.span(1, end), NO);
        }
    }

    /** "NO: formula, end" */
    void promise9NoSuchFormulaIsNo() {
        SpanKeeper keeper = with("a", "b");
        keeper.drop();
        for (int formula : new int[] {-1, 1, 6, Integer.MIN_VALUE, Integer.MAX_VALUE}) {
            due("span(" + formula + ", 0)", keeper.span(formula, 0), NO);
        }
    }

    /** Spans are told as sources stand when they are asked for. */
    void promise9AsSourcesStandNow() {
        SpanKeeper keeper = with("a*" + TWO62);
        keeper.set(0, 0, 2);
        spanIs(keeper, 0, OVER, OVER, OVER);
        keeper.set(0, 0, 1);
        spanIs(keeper, 0, TWO62_WORTH, TWO62_WORTH, 0);
    }

    /** "what is asked changes nothing but THE WAY": which is of the latest one already */
    void promise9AskedChangesNothingElse() {
        unchangedBy(keeper -> {
            for (int end = -1; end < 4; end++) {
                keeper.span(-1, end);
                keeper.span(0, end);
                keeper.span(2, end);
                keeper.span(3, end);
            }
            due("span(3, 2)", keeper.span(3, 2), OVER);
        });
    }

    // ==== promise 10: way

    /** "that is 0, if none was OVER yet": spans that are told make none */
    void promise10NoneWasOverYet() {
        SpanKeeper keeper = with("a+b", GREATEST, TOO_GREAT);
        keeper.span(0, 0);
        keeper.span(1, 1);
        wayIs(keeper);
    }

    /** "(for any end)" */
    void promise10ForAnyEnd() {
        for (int end : ALL_ENDS) {
            SpanKeeper keeper = with("a-" + TOO_GREAT);
            due("span(0, " + end + ")", keeper.span(0, end), OVER);
            wayIs(keeper, 21, 1);
        }
    }

    /** "WIDTH alone being none makes none" */
    void promise10WidthAloneMakesNone() {
        SpanKeeper keeper = with("a*" + TWO62);
        stand(keeper, 0, 0, 1);
        due("span(0, 2)", keeper.span(0, 2), OVER);
        wayIs(keeper);
    }

    /** "A WIDTH that alone is OVER makes no WAY: the one that there was stays" */
    void promise10WidthAloneLeavesTheOldOne() {
        SpanKeeper keeper = with("a*" + TWO62, TOO_GREAT);
        stand(keeper, 0, 0, 1);
        due("span(1, 0)", keeper.span(1, 0), OVER);
        due("span(0, 2)", keeper.span(0, 2), OVER);
        wayIs(keeper, 19);
    }

    /** "of the latest FORMULA told by span() that was OVER": a shorter one leaves nothing of a longer one */
    void promise10LatestThatWasOver() {
        SpanKeeper keeper = with(TOO_GREAT, "-(a+(b-" + TOO_GREAT + "))");
        keeper.span(0, 0);
        wayIs(keeper, 19);
        keeper.span(1, 0);
        wayIs(keeper, 26, 6, 3, 0);
        keeper.span(0, 0);
        wayIs(keeper, 19);
    }

    /** "that was OVER": one that is not leaves the old one */
    void promise10OneThatIsNotOverLeavesTheOldOne() {
        SpanKeeper keeper = with(TOO_GREAT, "a");
        keeper.span(0, 0);
        for (int end : ALL_ENDS) {
            keeper.span(1, end);
        }
        wayIs(keeper, 19);
    }

    /** "that was OVER": also where it is so no more */
    void promise10StaysWhenItIsOverNoMore() {
        SpanKeeper keeper = with("a*" + TWO62);
        keeper.set(0, 0, 2);
        keeper.span(0, 0);
        wayIs(keeper, 21);
        keeper.set(0, 0, 1);
        keeper.span(0, 0);
        wayIs(keeper, 21);
    }

    /** "stays, behind drop() and formula(), too": drop() */
    void promise10StaysBehindDrop() {
        SpanKeeper keeper = with("a-" + TOO_GREAT);
        keeper.span(0, 0);
        due("drop()", keeper.drop(), 0);
        wayIs(keeper, 21, 1);
    }

    /** "stays, behind drop() and formula(), too": formula(), a fault, the same number anew */
    void promise10StaysBehindFormula() {
        SpanKeeper keeper = with("a-" + TOO_GREAT);
        keeper.span(0, 0);
        due("a formula", read(keeper, "b"), 1);
        due("a fault", read(keeper, "b+"), -102);
        wayIs(keeper, 21, 1);
        keeper.drop();
        keeper.drop();
        due("another 0", read(keeper, "-(" + TOO_GREAT + ")"), 0);
        wayIs(keeper, 21, 1);
    }

    /** "THE IMAGE: SOURCES, FORMULAS, the PLAN (not LISTS, THE TAPE, THE WAY)" */
    void promise10StaysBehindUndo() {
        SpanKeeper keeper = with(TOO_GREAT, "a-" + TOO_GREAT);
        keeper.image();
        keeper.span(0, 0);
        keeper.undo();
        wayIs(keeper, 19);
        keeper.image();
        keeper.span(1, 0);
        keeper.undo();
        wayIs(keeper, 21, 1);
    }

    /** "the first one it is made of that is OVER": if both are */
    void promise10FirstOneIfBothAreOver() {
        SpanKeeper keeper = with(TOO_GREAT + "-" + TOO_GREAT);
        keeper.span(0, 0);
        wayIs(keeper, 19, 24);
    }

    /** "the first one it is made of that is OVER": the second, if the first is not */
    void promise10SecondOneIfItAloneIsOver() {
        SpanKeeper keeper = with("9*9-" + TOO_GREAT);
        keeper.span(0, 0);
        wayIs(keeper, 23, 3);
    }

    /** "as long as it is made of such": the last is over by its own numbers */
    void promise10EndsWhereNoneItIsMadeOfIsOver() {
        SpanKeeper keeper = with(GREATEST + "+1", "-(" + LEAST + ")", "a*" + TWO62 + "+b*" + TWO62);
        keeper.span(0, 0);
        wayIs(keeper, 53);
        keeper.span(1, 0);
        wayIs(keeper, 0);
        keeper.set(0, 0, 1);
        keeper.set(1, 0, 1);
        keeper.span(2, 0);
        wayIs(keeper, 26);
    }

    /** The way is by the parts that are over as sources stand. */
    void promise10ByWhatIsOverNow() {
        SpanKeeper keeper = with("a*" + TWO62 + "+b*" + TWO62);
        keeper.set(0, 0, 2);
        keeper.span(0, 0);
        wayIs(keeper, 21, 26);
        keeper.set(0, 0, 0);
        keeper.set(1, 0, 2);
        keeper.span(0, 0);
        wayIs(keeper, 48, 26);
    }

    /** "places of their signs (+, -, *, the - of -F), the last one's first" */
    void promise10SignsTheLastOnesFirst() {
        SpanKeeper keeper = with("-(a+(b-" + TOO_GREAT + "))", "(" + TOO_GREAT + "*9-a+b)*0");
        keeper.span(0, 0);
        wayIs(keeper, 26, 6, 3, 0);
        keeper.span(1, 0);
        wayIs(keeper, 20, 25, 27, 29, 32);
    }

    /** "in the text as it was read": ( ) count as bytes, a tape ahead of it doesn't */
    void promise10PlacesInTheText() {
        SpanKeeper keeper = with("a+b", "((((((" + TOO_GREAT + "))))))");
        keeper.span(1, 0);
        wayIs(keeper, 25);
    }

    /** The longest way: 60 bytes, 18 signs behind that of the product that is no long */
    void promise10LongestWay() {
        SpanKeeper keeper = with(TOO_GREAT + "-1-1-1-1-1-1-1-1-1-1-1-1-1-1-1-1-1-1");
        keeper.span(0, 0);
        due("way(-1)", keeper.way(-1), 19);
        due("way(0)", keeper.way(0), 19);
        due("way(1)", keeper.way(1), 24);
        due("way(18)", keeper.way(18), 58);
        due("way(19)", keeper.way(19), -1);
    }

    /** "counted from 0 (k -1: how many there are"; "NONE." */
    void promise10KFromLess1() {
        SpanKeeper keeper = with("a-" + TOO_GREAT);
        for (int k : new int[] {-2, 0, 1, Integer.MIN_VALUE, Integer.MAX_VALUE}) {
            due("way(" + k + "), none yet", keeper.way(k), -1);
        }
        keeper.span(0, 0);
        due("way(-1)", keeper.way(-1), 2);
        due("way(1)", keeper.way(1), 1);
        for (int k : new int[] {-2, 2, Integer.MIN_VALUE, Integer.MAX_VALUE}) {
            due("way(" + k + ")", keeper.way(k), -1);
        }
    }

    /** "nothing else changes it": no other call that looks at what is over */
    void promise10NothingElseChangesIt() {
        SpanKeeper keeper = with(TOO_GREAT, "a-" + TOO_GREAT);
        keeper.list(0, 2);
        askAllOf(keeper, 1);
        wayIs(keeper);
        keeper.span(0, 0);
        askAllOf(keeper, 1);
        wayIs(keeper, 19);
    }

    private void askAllOf(SpanKeeper keeper, int formula) {
        due("exact", keeper.exact(formula), OVER);
        due("corner", keeper.corner(formula, 0), OVER);
        due("rises", keeper.rises(formula, 0), -6);
        due("tight", keeper.tight(formula, 0), OVER);
        due("split", keeper.split(formula, 0, 0, 0), OVER);
        due("best", keeper.best(formula, 0), OVER);
        due("widest", keeper.widest(formula), -6);
        due("again", keeper.again(formula, 0, 0), -6);
        due("fits", keeper.fits(formula, 0, 0, 0), 0);
        due("odds", keeper.odds(formula, 0, 1, 0, 0, 0), OVER);
        due("ends", keeper.ends(formula), OVER);
        due("judge", keeper.judge(0), 0);
        due("count", keeper.count(3), 2);
        due("parts", keeper.parts(formula, 4), 5);
        due("alike", keeper.alike(formula, 0), 0);
    }

    /** "What is answered so changes nothing": a span that is refused */
    void promise10RefusedSpanLeavesIt() {
        SpanKeeper keeper = with(TOO_GREAT, "a-" + TOO_GREAT);
        due("span(0, 3)", keeper.span(0, 3), NO);
        wayIs(keeper);
        keeper.span(1, 0);
        due("span(0, 3)", keeper.span(0, 3), NO);
        due("span(0, -1)", keeper.span(0, -1), NO);
        due("span(2, 0)", keeper.span(2, 0), NO);
        wayIs(keeper, 21, 1);
    }

    /** "what is asked changes nothing" */
    void promise10AskedChangesNothing() {
        unchangedBy(keeper -> {
            for (int k = -2; k < 5; k++) {
                keeper.way(k);
            }
            due("way(1)", keeper.way(1), 1);
        });
    }

    // ==== promise 11: exact

    /** "all SOURCES at their VALUES": spans don't matter, so long as it is not over */
    void promise11AtTheirValues() {
        SpanKeeper keeper = with("a*b-c");
        stand(keeper, 0, -7, 20);
        stand(keeper, 1, 9, 0);
        stand(keeper, 2, 99, 3);
        due("exact(0)", keeper.exact(0), -162);
    }

    /** "OVER: it is OVER as SPANNED": though its worth is a long */
    void promise11OverAsSpannedThoughWorthALong() {
        SpanKeeper keeper = with("a*" + TWO62, "b*" + TWO62 + "-b*" + TWO62);
        stand(keeper, 0, 1, 1);
        stand(keeper, 1, 0, 1);
        due("exact(0)", keeper.exact(0), OVER);
        due("exact(1)", keeper.exact(1), OVER);
        keeper.set(0, 1, 0);
        keeper.set(1, 1, 0);
        due("exact(0)", keeper.exact(0), TWO62_WORTH);
        due("exact(1)", keeper.exact(1), 0);
    }

    /** "it is OVER as SPANNED": a WIDTH that alone is no long does not matter */
    void promise11WidthAloneDoesNotMatter() {
        SpanKeeper keeper = with("a*" + TWO62);
        stand(keeper, 0, 0, 1);
        due("span(0, 2)", keeper.span(0, 2), OVER);
        due("exact(0)", keeper.exact(0), 0);
    }

    /** "till a number is too great": both ends of a long are worths like others */
    void promise11AtTheLongsEnds() {
        SpanKeeper keeper = with(GREATEST, LEAST, GREATEST + "+1", LEAST + "-1");
        due("exact(0)", keeper.exact(0), Long.MAX_VALUE);
        due("exact(1)", keeper.exact(1), Long.MIN_VALUE);
        due("exact(2)", keeper.exact(2), OVER);
        due("exact(3)", keeper.exact(3), OVER);
    }

    /** "NO: formula" */
    void promise11NoSuchFormulaIsNo() {
        SpanKeeper keeper = with("7", "8");
        keeper.drop();
        for (int formula : new int[] {-1, 1, 6, Integer.MIN_VALUE, Integer.MAX_VALUE}) {
            due("exact(" + formula + ")", keeper.exact(formula), NO);
        }
        due("exact(0)", keeper.exact(0), 7);
    }

    /** "what is asked changes nothing" */
    void promise11AskedChangesNothing() {
        unchangedBy(keeper -> {
            for (int formula = -1; formula < 6; formula++) {
                keeper.exact(formula);
            }
            due("exact(2)", keeper.exact(2), 0);
        });
    }

    // ==== promise 12: corner

    /** "each SOURCE standing at its LOW or its HIGH, in all ways": of all six */
    void promise12AllWaysOfSixSources() {
        SpanKeeper keeper = with("a+b-c-d+e-f", "a*b*c*d*e*f");
        for (int source = 0; source < 6; source++) {
            stand(keeper, source, 1, source + 1);
        }
        // lows 0, -1, -2, -3, -4, -5; highs 2, 3, 4, 5, 6, 7
        due("corner(0, 0)", keeper.corner(0, 0), 0 - 1 - 4 - 5 - 4 - 7);
        due("corner(0, 1)", keeper.corner(0, 1), 2 + 3 + 2 + 3 + 6 + 5);
        due("corner(1, 0)", keeper.corner(1, 0), -2 * 3 * 4 * 5 * 6 * 5);
        due("corner(1, 1)", keeper.corner(1, 1), 2 * 3 * 4 * 5 * 6 * 7);
    }

    /** "each SOURCE standing at": at the same in all its places */
    void promise12SourceStandsAlikeInAllItsPlaces() {
        SpanKeeper keeper = with("a-a", "a*a");
        stand(keeper, 0, 1, 4);
        due("corner(0, 0)", keeper.corner(0, 0), 0);
        due("corner(0, 1)", keeper.corner(0, 1), 0);
        due("corner(1, 0)", keeper.corner(1, 0), 9);
        due("corner(1, 1)", keeper.corner(1, 1), 25);
    }

    /** "at its LOW or its HIGH": what lies between does not count */
    void promise12BetweenDoesNotCount() {
        SpanKeeper keeper = with("a*a", "0-a*a");
        stand(keeper, 0, 0, 2);
        due("corner(0, 0)", keeper.corner(0, 0), 4);
        due("corner(0, 1)", keeper.corner(0, 1), 4);
        due("corner(1, 0)", keeper.corner(1, 0), -4);
        due("corner(1, 1)", keeper.corner(1, 1), -4);
    }

    /** Without spans all corners are one, of a number, too. */
    void promise12WithoutSpansAllAreOne() {
        SpanKeeper keeper = with("a*b-c", "9999");
        keeper.set(0, 0, -99);
        keeper.set(1, 0, 99);
        for (int end : BOTH) {
            due("corner(0, " + end + ")", keeper.corner(0, end), -9801);
            due("corner(1, " + end + ")", keeper.corner(1, end), 9999);
        }
    }

    /** "OVER likewise": as SPANNED, though at all corners it is a long */
    void promise12OverAsSpannedThoughCornersAreLongs() {
        SpanKeeper keeper = with("a*" + TWO62 + "-a*" + TWO62);
        stand(keeper, 0, 0, 1);
        due("corner(0, 0)", keeper.corner(0, 0), OVER);
        due("corner(0, 1)", keeper.corner(0, 1), OVER);
    }

    /** "OVER likewise": a WIDTH that alone is no long does not matter */
    void promise12WidthAloneDoesNotMatter() {
        SpanKeeper keeper = with("a*" + TWO62);
        stand(keeper, 0, 0, 1);
        due("corner(0, 0)", keeper.corner(0, 0), -TWO62_WORTH);
        due("corner(0, 1)", keeper.corner(0, 1), TWO62_WORTH);
    }

    /** Corners at both ends of a long. */
    void promise12AtTheLongsEnds() {
        SpanKeeper keeper = with(GREATEST + "+a", LEAST + "+b");
        stand(keeper, 0, -1, 1);
        stand(keeper, 1, 1, 1);
        due("corner(0, 0)", keeper.corner(0, 0), Long.MAX_VALUE - 2);
        due("corner(0, 1)", keeper.corner(0, 1), Long.MAX_VALUE);
        due("corner(1, 0)", keeper.corner(1, 0), Long.MIN_VALUE);
        due("corner(1, 1)", keeper.corner(1, 1), Long.MIN_VALUE + 2);
    }

    /** "the least (end 0), the greatest (1). NO: formula, end; OVER likewise." */
    void promise12EndsFrom0To1() {
        SpanKeeper keeper = with("a", TOO_GREAT);
        stand(keeper, 0, 3, 2);
        due("corner(0, 0)", keeper.corner(0, 0), 1);
        due("corner(0, 1)", keeper.corner(0, 1), 5);
        for (int end : new int[] {-1, 2, Integer.MIN_VALUE, Integer.MAX_VALUE}) {
            due("corner(0, " + end + ")", keeper.corner(0, end), NO);
            due("corner(1, " + end + "), ahead of OVER", keeper.corner(1, end), NO);
        }
    }

    /** "NO: formula, end" */
    void promise12NoSuchFormulaIsNo() {
        SpanKeeper keeper = with("a", "b");
        keeper.drop();
        for (int formula : new int[] {-1, 1, 6, Integer.MIN_VALUE, Integer.MAX_VALUE}) {
            due("corner(" + formula + ", 0)", keeper.corner(formula, 0), NO);
        }
    }

    /** "what is asked changes nothing" */
    void promise12AskedChangesNothing() {
        unchangedBy(keeper -> {
            for (int end = -1; end < 3; end++) {
                keeper.corner(0, end);
                keeper.corner(3, end);
            }
            due("corner(2, 0)", keeper.corner(2, 0), -TWO62_WORTH);
        });
    }

    // ==== promise 13: rises

    private void changeIs(String text, int aLow, int aHigh, int bLow, int bHigh, int source, int change) {
        SpanKeeper keeper = with(text);
        stand(keeper, 0, (aLow + aHigh) / 2, (aHigh - aLow) / 2);
        stand(keeper, 1, (bLow + bHigh) / 2, (bHigh - bLow) / 2);
        due("rises of " + text + " by " + source, keeper.rises(0, source), change);
    }

    /** "of that letter 1 to 1; of another one, a number 0 to 0" */
    void promise13LetterNumberAnother() {
        changeIs("a", -5, 5, 0, 0, 0, 1);
        changeIs("b", -5, 5, 0, 0, 0, 0);
        changeIs("7", -5, 5, 0, 0, 0, 0);
        changeIs("a+7", -5, 5, 0, 0, 0, 1);
        changeIs("7+a", -5, 5, 0, 0, 0, 1);
        changeIs("a-b", -5, 5, 0, 0, 1, 2);
    }

    /** "else RISES (1): LOW is 0 or more" */
    void promise13RisesFromALowOf0On() {
        changeIs("a*b", -5, 5, 0, 4, 0, 1);
        changeIs("a*b", -5, 5, 1, 5, 0, 1);
        changeIs("a*b", -5, 5, -1, 3, 0, 3);
    }

    /** "else FALLS (2): HIGH is 0 or less" */
    void promise13FallsUpToAHighOf0() {
        changeIs("a*b", -5, 5, -4, 0, 0, 2);
        changeIs("a*b", -5, 5, -5, -1, 0, 2);
        changeIs("a*b", -5, 5, -3, 1, 0, 3);
    }

    /** "else FLAT (0): 0 to 0": ahead of RISES and FALLS, also of a source that stands in it */
    void promise13FlatFrom0To0() {
        changeIs("a*b", -5, 5, 0, 0, 0, 0);
        changeIs("a-a", -5, 5, 0, 0, 0, 0);
        changeIs("a*0", -5, 5, 0, 0, 0, 0);
    }

    /** "-F as SPANNED": it is turned about */
    void promise13LessTurnsItAbout() {
        changeIs("-a", -5, 5, 0, 0, 0, 2);
        changeIs("--a", -5, 5, 0, 0, 0, 1);
        changeIs("-(a*b)", -5, 5, 0, 4, 0, 2);
        changeIs("-(a*b)", -5, 5, -4, 0, 0, 1);
        changeIs("-(a*b)", -5, 5, -1, 3, 0, 3);
    }

    /** "the change of the first times the second, and the first times the change of the second, together" */
    void promise13BothSharesOfAProduct() {
        changeIs("a*a", 1, 3, 0, 0, 0, 1);
        changeIs("a*a", 0, 2, 0, 0, 0, 1);
        changeIs("a*a", -2, 0, 0, 0, 0, 2);
        changeIs("a*a", -1, 1, 0, 0, 0, 3);
        // a-b from 1 to 5, a+b from 5 to 9: by b from 1 - 9 to 5 - 5
        changeIs("(a+b)*(a-b)", 4, 6, 1, 3, 0, 1);
        changeIs("(a+b)*(a-b)", 4, 6, 1, 3, 1, 2);
        changeIs("(a+b)*(a-b)", 3, 7, 1, 3, 1, 3);
        changeIs("b*a", -5, 5, 0, 4, 0, 1);
        changeIs("b*a", -5, 5, -4, 0, 0, 2);
    }

    /** "(spans, as SPANNED)": as told by a span, not as it is */
    void promise13AsToldByASpan() {
        changeIs("a*b-a*b", -5, 5, 2, 4, 0, 3);
        changeIs("a*b-a*b", -5, 5, 3, 3, 0, 0);
        changeIs("a*b-a", -5, 5, 1, 3, 0, 1);
        changeIs("a*b-a", -5, 5, 0, 2, 0, 3);
    }

    /** "3, if any of these numbers is no long": of the whole one */
    void promise13NoLongIs3() {
        changeIs("a*" + TOO_GREAT, 0, 0, 0, 0, 0, 3);
        changeIs("a*" + TWO62 + "+a*" + TWO62, 0, 0, 0, 0, 0, 3);
        changeIs("-(-a*" + TWO62 + "-a*" + TWO62 + ")", 0, 0, 0, 0, 0, 3);
    }

    /** "if any of these numbers is no long": the least long is one */
    void promise13LeastLongIsOne() {
        changeIs("-a*" + TWO62 + "-a*" + TWO62, 0, 0, 0, 0, 0, 2);
        changeIs("a*" + TWO62 + "+a*(" + TWO62 + "-1)", 0, 0, 0, 0, 0, 1);
    }

    /** "3, if any of these numbers is no long; else": of a part, though times 0 all would be 0 */
    void promise13NoLongOfAPartIs3() {
        changeIs("a*" + TOO_GREAT + "*0", 0, 0, 0, 0, 0, 3);
        changeIs("0*(a*" + TOO_GREAT + ")", 0, 0, 0, 0, 0, 3);
        changeIs("a*" + TOO_GREAT + "-a*" + TOO_GREAT, 0, 0, 0, 0, 0, 3);
    }

    /** "3, if any of these numbers is no long": by another source none is */
    void promise13ByAnotherSourceItIsFlat() {
        changeIs("a*" + TOO_GREAT, 0, 0, 0, 0, 1, 0);
        changeIs("a*" + TOO_GREAT, 0, 0, -5, 5, 5, 0);
    }

    /** Each call tells of its own formula and source alone, whatever was asked ahead of it. */
    void promise13WhateverWasAskedAhead() {
        SpanKeeper keeper = with("a*" + TOO_GREAT, "a", "7", "7-8*9", "b+7");
        due("rises(0, 0), a number of it no long", keeper.rises(0, 0), 3);
        due("rises(3, 0)", keeper.rises(3, 0), 0);
        due("rises(1, 0)", keeper.rises(1, 0), 1);
        due("rises(2, 0)", keeper.rises(2, 0), 0);
        due("rises(4, 0)", keeper.rises(4, 0), 0);
        due("rises(4, 1)", keeper.rises(4, 1), 1);
        due("rises(2, 1)", keeper.rises(2, 1), 0);
    }

    /** "PAST: it is OVER": by a source that does not stand in it, too; a WIDTH alone does not matter */
    void promise13PastIfOver() {
        SpanKeeper keeper = with(TOO_GREAT, "a*" + TWO62);
        stand(keeper, 0, 0, 1);
        due("rises(0, 0)", keeper.rises(0, 0), -6);
        due("rises(1, 0), its width is over", keeper.rises(1, 0), 1);
        stand(keeper, 0, 1, 1);
        due("rises(1, 0)", keeper.rises(1, 0), -6);
        due("rises(1, 5)", keeper.rises(1, 5), -6);
    }

    /** "NONE": no such FORMULA, no such SOURCE; ahead of PAST */
    void promise13NoSuchFormulaOrSourceIsNone() {
        SpanKeeper keeper = with("f", TOO_GREAT);
        due("rises(0, 5)", keeper.rises(0, 5), 1);
        for (int number : new int[] {-1, 6, Integer.MIN_VALUE, Integer.MAX_VALUE}) {
            due("rises(0, " + number + ")", keeper.rises(0, number), -1);
            due("rises(1, " + number + ")", keeper.rises(1, number), -1);
            due("rises(" + number + ", 0)", keeper.rises(number, 0), -1);
        }
        due("rises(2, 0)", keeper.rises(2, 0), -1);
    }

    /** "what is asked changes nothing" */
    void promise13AskedChangesNothing() {
        unchangedBy(keeper -> {
            for (int source = -1; source < 7; source++) {
                keeper.rises(0, source);
                keeper.rises(3, source);
            }
            due("rises(0, 2)", keeper.rises(0, 2), 2);
        });
    }

    // ==== promise 14: tight

    private void tightIs(String text, int aLow, int aHigh, int bLow, int bHigh, long low, long high) {
        SpanKeeper keeper = with(text);
        stand(keeper, 0, (aLow + aHigh) / 2, (aHigh - aLow) / 2);
        stand(keeper, 1, (bLow + bHigh) / 2, (bHigh - bLow) / 2);
        due("tight low of " + text, keeper.tight(0, 0), low);
        due("tight high of " + text, keeper.tight(0, 1), high);
    }

    /** "LOW: SPANNED with all SOURCES by which it RISES at LOW": from a change of 0 on */
    void promise14RisesAtLowForLow() {
        tightIs("a*a-2*a", 1, 7, 0, 0, -1, 35);
        tightIs("a*a-2*a", 0, 6, 0, 0, -12, 36);
    }

    /** "by which it FALLS at HIGH": up to a change of 0 */
    void promise14FallsAtHighForLow() {
        tightIs("2*a-a*a", 1, 7, 0, 0, -35, 1);
        tightIs("a*a+2*a", -7, -1, 0, 0, -1, 35);
    }

    /** Of two sources by the one it rises, by the other it falls. */
    void promise14EachSourceByItself() {
        tightIs("a*a-2*a-(b*b-2*b)", 1, 7, 1, 5, -1 - 15, 35 + 1);
    }

    /** "all others as they are": 3 */
    void promise14NeitherStaysAsItIs() {
        tightIs("a*a-a", -3, 3, 0, 0, -12, 12);
        tightIs("a*b", -3, 3, -2, 2, -6, 6);
    }

    /** "all others as they are": FLAT */
    void promise14FlatStaysAsItIs() {
        tightIs("a-a", 1, 7, 0, 0, -6, 6);
        tightIs("a-a+b", 1, 7, 2, 4, -4, 10);
    }

    /** By which it rises is told as SOURCES are, not as they stand for this: by b it is 3. */
    void promise14ChangesAreToldAsSourcesAre() {
        tightIs("a*9+(b*b-2*b)*a", -1, 3, 2, 4, -21, 63);
        // the same with the letters the other way about
        tightIs("b*9+(a*a-2*a)*b", 2, 4, -1, 3, -21, 63);
    }

    /** Without spans it is what the formula is worth. */
    void promise14WithoutSpans() {
        tightIs("a*b-7", 4, 4, -3, -3, -19, -19);
        tightIs("9999", 4, 4, -3, -3, 9999, 9999);
    }

    /** "OVER as SPANNED": though with a at LOW it is a long */
    void promise14OverAsSpanned() {
        SpanKeeper keeper = with("a*" + TWO62, TOO_GREAT);
        stand(keeper, 0, 1, 1);
        for (int end : BOTH) {
            due("tight(0, " + end + ")", keeper.tight(0, end), OVER);
            due("tight(1, " + end + ")", keeper.tight(1, end), OVER);
        }
    }

    /** "OVER as SPANNED": a WIDTH that alone is no long does not matter */
    void promise14WidthAloneDoesNotMatter() {
        tightIs("a*" + TWO62, -1, 1, 0, 0, -TWO62_WORTH, TWO62_WORTH);
    }

    /** "LOW (end 0), HIGH (1). NO: formula, end; OVER as SPANNED." */
    void promise14EndsFrom0To1() {
        SpanKeeper keeper = with("a", TOO_GREAT);
        for (int end : new int[] {-1, 2, Integer.MIN_VALUE, Integer.MAX_VALUE}) {
            due("tight(0, " + end + ")", keeper.tight(0, end), NO);
            due("tight(1, " + end + "), ahead of OVER", keeper.tight(1, end), NO);
        }
    }

    /** "NO: formula, end" */
    void promise14NoSuchFormulaIsNo() {
        SpanKeeper keeper = with("a", "b");
        keeper.drop();
        for (int formula : new int[] {-1, 1, 6, Integer.MIN_VALUE, Integer.MAX_VALUE}) {
            due("tight(" + formula + ", 0)", keeper.tight(formula, 0), NO);
        }
    }

    /** "what is asked changes nothing": sources stand as they stood */
    void promise14AskedChangesNothing() {
        unchangedBy(keeper -> {
            for (int end = -1; end < 3; end++) {
                keeper.tight(0, end);
                keeper.tight(1, end);
                keeper.tight(3, end);
            }
            due("tight(2, 1)", keeper.tight(2, 1), TWO62_WORTH);
        });
    }
}
