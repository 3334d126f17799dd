/** Edges of promises 15 to 18: splits, the best one, the widest source, what to measure again. */
public final class EdgesOfSplitsTest extends Edges {
    private static final int[] WRONG_NUMBERS = {-1, 6, Integer.MIN_VALUE, Integer.MAX_VALUE};

    public static void main(String[] args) {
        goThrough(EdgesOfSplitsTest::new, 15, 18);
    }

    // ==== promise 15: split

    private void splitIs(SpanKeeper keeper, int source, int c, long low, long high, long width) {
        String call = "split(0, " + source + ", " + c + ", ";
        due(call + "0)", keeper.split(0, source, c, 0), low);
        due(call + "1)", keeper.split(0, source, c, 1), high);
        due(call + "2)", keeper.split(0, source, c, 2), width);
    }

    /** "at c (its LOW .. HIGH)": LOW and HIGH themselves are as without */
    void promise15CFromLowToHigh() {
        SpanKeeper keeper = with("a*a-2*a");
        stand(keeper, 0, 4, 3);
        splitIs(keeper, 0, 1, -13, 47, 60);
        splitIs(keeper, 0, 7, -13, 47, 60);
        for (int c : new int[] {0, 8, -4, Integer.MIN_VALUE, Integer.MAX_VALUE}) {
            splitIs(keeper, 0, c, NO, NO, NO);
        }
    }

    /** "at c (its LOW .. HIGH)": they may lie beyond -99 and 99 */
    void promise15CBeyondTheValues() {
        SpanKeeper keeper = with("f");
        stand(keeper, 5, 99, 20);
        splitIs(keeper, 5, 119, 79, 119, 40);
        splitIs(keeper, 5, 120, NO, NO, NO);
        stand(keeper, 5, -99, 20);
        splitIs(keeper, 5, -119, -119, -79, 40);
        splitIs(keeper, 5, -120, NO, NO, NO);
    }

    /** "at c (its LOW .. HIGH)": of a SPAN of 0 the VALUE alone */
    void promise15CIsTheValueIfTheSpanIs0() {
        SpanKeeper keeper = with("a*a-2*a");
        stand(keeper, 0, 5, 0);
        splitIs(keeper, 0, 5, 15, 15, 0);
        splitIs(keeper, 0, 4, NO, NO, NO);
        splitIs(keeper, 0, 6, NO, NO, NO);
    }

    /** "the lesser LOW, the greater HIGH": each may be the one half's or the other's */
    void promise15LesserLowGreaterHigh() {
        SpanKeeper keeper = with("a*a-2*a");
        stand(keeper, 0, 4, 3);
        // -7 .. 14 and 2 .. 41
        splitIs(keeper, 0, 4, -7, 41, 48);
        keeper = with("2*a-a*a");
        stand(keeper, 0, 4, 3);
        // -14 .. 7 and -41 .. -2
        splitIs(keeper, 0, 4, -41, 7, 48);
        keeper = with("a*a");
        stand(keeper, 0, 0, 3);
        // -3 .. 9 and 1 .. 9
        splitIs(keeper, 0, 1, -3, 9, 12);
        // 0 .. 9 and 0 .. 9
        splitIs(keeper, 0, 0, 0, 9, 9);
    }

    /** "A SPLIT of a SOURCE that does not stand in the FORMULA is as without.": from its LOW to its HIGH */
    void promise15SourceThatDoesNotStandInIt() {
        SpanKeeper keeper = with("a*a-2*a");
        stand(keeper, 0, 4, 3);
        stand(keeper, 1, 0, 2);
        for (int c = -2; c <= 2; c++) {
            splitIs(keeper, 1, c, -13, 47, 60);
        }
        splitIs(keeper, 1, 3, NO, NO, NO);
        splitIs(keeper, 1, -3, NO, NO, NO);
        splitIs(keeper, 5, 0, -13, 47, 60);
    }

    /** "OVER: the FORMULA is": though it is not in either half */
    void promise15OverIfTheFormulaIs() {
        SpanKeeper keeper = with("a*" + TWO62 + "-a*" + TWO62);
        stand(keeper, 0, 0, 1);
        splitIs(keeper, 0, 0, OVER, OVER, OVER);
        splitIs(keeper, 1, 0, OVER, OVER, OVER);
    }

    /** "or (end 2) this WIDTH is no long": LOW and HIGH are told */
    void promise15ThisWidthIsNoLong() {
        SpanKeeper keeper = with("a*" + TWO62);
        stand(keeper, 0, 0, 1);
        splitIs(keeper, 0, 0, -TWO62_WORTH, TWO62_WORTH, OVER);
    }

    /** "this WIDTH": it may be a long, where without it is none */
    void promise15ThisWidthIsALongAgain() {
        SpanKeeper keeper = with("a*a*" + TWO62);
        stand(keeper, 0, 0, 1);
        due("span(0, 2)", keeper.span(0, 2), OVER);
        splitIs(keeper, 0, 0, 0, TWO62_WORTH, TWO62_WORTH);
        splitIs(keeper, 0, 1, -TWO62_WORTH, TWO62_WORTH, OVER);
    }

    /** "NO: formula, source, c, end": each of them, ahead of OVER */
    void promise15WrongNumbersAreNo() {
        SpanKeeper keeper = with("a", TOO_GREAT);
        for (int wrong : WRONG_NUMBERS) {
            due("formula " + wrong, keeper.split(wrong, 0, 0, 0), NO);
            due("source " + wrong, keeper.split(0, wrong, 0, 0), NO);
            due("source " + wrong + ", over", keeper.split(1, wrong, 0, 0), NO);
        }
        for (int end : new int[] {-1, 3, Integer.MIN_VALUE, Integer.MAX_VALUE}) {
            due("end " + end, keeper.split(0, 0, 0, end), NO);
            due("end " + end + ", over", keeper.split(1, 0, 0, end), NO);
        }
        due("c 1", keeper.split(0, 0, 1, 0), NO);
        due("c 1, over", keeper.split(1, 0, 1, 0), NO);
        due("formula 2", keeper.split(2, 0, 0, 0), NO);
        due("none wrong", keeper.split(0, 0, 0, 0), 0);
        due("none wrong, over", keeper.split(1, 0, 0, 0), OVER);
    }

    /** "what is asked changes nothing": the source's span is whole again */
    void promise15AskedChangesNothing() {
        unchangedBy(keeper -> {
            for (int c = 3; c < 8; c++) {
                keeper.split(1, 3, c, 0);
                keeper.split(3, 3, c, 2);
            }
            due("split(1, 3, 5, 0)", keeper.split(1, 3, 5, 0), 4 - 10);
        });
    }

    // ==== promise 16: best

    private void bestIs(SpanKeeper keeper, long source, long c, long less) {
        due("best(0, 0)", keeper.best(0, 0), source);
        due("best(0, 1)", keeper.best(0, 1), c);
        due("best(0, 2)", keeper.best(0, 2), less);
    }

    /** "if less than without"; "-1000: there is none" */
    void promise16NoneIfNoWidthBecomesLess() {
        SpanKeeper keeper = with("a-b*3");
        bestIs(keeper, -1000, -1000, -1000);
        stand(keeper, 0, 5, 20);
        stand(keeper, 1, 5, 20);
        bestIs(keeper, -1000, -1000, -1000);
    }

    /** "-1000: there is none": a source that does not stand in it makes no width less */
    void promise16NoneByASourceThatDoesNotStandInIt() {
        SpanKeeper keeper = with("a*a-2*a");
        stand(keeper, 0, 4, 0);
        stand(keeper, 1, 4, 3);
        bestIs(keeper, -1000, -1000, -1000);
    }

    /** "that by which WIDTH is least": not the first by which it is less */
    void promise16ByWhichWidthIsLeast() {
        SpanKeeper keeper = with("a*a+b*b");
        stand(keeper, 0, 0, 5);
        stand(keeper, 1, 0, 6);
        bestIs(keeper, 1, 0, 36);
        stand(keeper, 1, 0, 4);
        bestIs(keeper, 0, 0, 25);
    }

    /** "of like ones the least SOURCE" */
    void promise16LeastSourceOfLikeOnes() {
        SpanKeeper keeper = with("c*c+b*b+f*f");
        stand(keeper, 5, 0, 5);
        stand(keeper, 2, 0, 5);
        stand(keeper, 1, 0, 5);
        bestIs(keeper, 1, 0, 25);
        keeper.set(1, 1, 4);
        bestIs(keeper, 2, 0, 25);
    }

    /** "then the least c" */
    void promise16LeastCOfLikeOnes() {
        SpanKeeper keeper = with("(a-1)*(a+1)");
        stand(keeper, 0, 1, 2);
        due("width at 0", keeper.split(0, 0, 0, 2), 12);
        due("width at 1", keeper.split(0, 0, 1, 2), 12);
        bestIs(keeper, 0, 0, 4);
    }

    /** "then the least c": one below 0, too */
    void promise16LeastCBelow0() {
        SpanKeeper keeper = with("a*a+2*a");
        stand(keeper, 0, -4, 3);
        // at -6: 22 .. 37 and -11 .. 34; at -3: -5 .. 43 and -5 .. 7
        for (int c = -6; c <= -3; c++) {
            due("width at " + c, keeper.split(0, 0, c, 2), 48);
        }
        due("width at -7", keeper.split(0, 0, -7, 2), 60);
        bestIs(keeper, 0, -6, 12);
    }

    /** "of all SOURCES and c": beyond the values, too */
    void promise16CBeyondTheValues() {
        SpanKeeper keeper = with("(f-110)*(f-110)");
        stand(keeper, 5, 99, 20);
        // -31 .. 9: 961 and -279; by 110 it is 0 .. 961
        bestIs(keeper, 5, 110, 279);
        keeper = with("(f+110)*(f+110)");
        stand(keeper, 5, -99, 20);
        bestIs(keeper, 5, -110, 279);
    }

    /** "OVER: WIDTH is": the formula itself */
    void promise16OverIfTheFormulaIs() {
        SpanKeeper keeper = with(TOO_GREAT);
        bestIs(keeper, OVER, OVER, OVER);
        keeper = with("a*" + TWO62 + "-a*" + TWO62);
        stand(keeper, 0, 0, 1);
        bestIs(keeper, OVER, OVER, OVER);
    }

    /** "OVER: WIDTH is": WIDTH alone, though by a split it would be a long */
    void promise16OverIfWidthAloneIs() {
        SpanKeeper keeper = with("a*a*" + TWO62);
        stand(keeper, 0, 0, 1);
        due("width at 0", keeper.split(0, 0, 0, 2), TWO62_WORTH);
        bestIs(keeper, OVER, OVER, OVER);
    }

    /** "2 how much less WIDTH is": as great as it may be */
    void promise16HowMuchLess() {
        SpanKeeper keeper = with("a*a*8192*8192*8192*8192*512");
        stand(keeper, 0, 0, 1);
        bestIs(keeper, 0, 0, TWO62_WORTH / 2);
    }

    /** "what 0 the SOURCE, 1 c, 2 how much less. NO: formula, what": ahead of OVER and of none */
    void promise16WhatsFrom0To2() {
        SpanKeeper keeper = with("a", TOO_GREAT);
        for (int what : new int[] {-1, 3, Integer.MIN_VALUE, Integer.MAX_VALUE}) {
            due("best(0, " + what + ")", keeper.best(0, what), NO);
            due("best(1, " + what + ")", keeper.best(1, what), NO);
        }
    }

    /** "NO: formula, what" */
    void promise16NoSuchFormulaIsNo() {
        SpanKeeper keeper = with("a", "b");
        keeper.drop();
        for (int formula : WRONG_NUMBERS) {
            due("best(" + formula + ", 0)", keeper.best(formula, 0), NO);
        }
        due("best(1, 0)", keeper.best(1, 0), NO);
    }

    /** "what is asked changes nothing" */
    void promise16AskedChangesNothing() {
        unchangedBy(keeper -> {
            for (int what = -1; what < 4; what++) {
                keeper.best(1, what);
                keeper.best(3, what);
            }
            due("best(2, 0)", keeper.best(2, 0), OVER);
        });
    }

    // ==== promise 17: widest

    /** "NOT: no SOURCE has a SPAN above 0" */
    void promise17NotIfNoSpanIsAbove0() {
        SpanKeeper keeper = with("a+b");
        due("widest(0)", keeper.widest(0), -5);
        keeper.set(4, 1, 1);
        due("widest(0)", keeper.widest(0), 4);
        keeper.set(4, 1, 0);
        due("widest(0)", keeper.widest(0), -5);
    }

    /** "(of a SPAN above 0, also one that doesn't stand in the FORMULA)" */
    void promise17OneThatDoesNotStandInIt() {
        SpanKeeper keeper = with("a");
        keeper.set(5, 1, 20);
        due("widest(0)", keeper.widest(0), 5);
        keeper.set(0, 1, 1);
        due("widest(0)", keeper.widest(0), 0);
    }

    /** "(of a SPAN above 0": not one of SPAN 0 that stands in it */
    void promise17NotOneOfSpan0() {
        SpanKeeper keeper = with("a*99+b");
        keeper.set(1, 1, 1);
        due("widest(0)", keeper.widest(0), 1);
    }

    /** "WIDEST is told also where no WIDTH becomes less." */
    void promise17AlsoWhereNoWidthBecomesLess() {
        SpanKeeper keeper = with("7", "c*0");
        keeper.set(2, 1, 20);
        due("widest(0)", keeper.widest(0), 2);
        due("widest(1)", keeper.widest(1), 2);
    }

    /** "of like ones the least": also where the widths are as without */
    void promise17LeastOfLikeOnes() {
        SpanKeeper keeper = with("f+d+b", "7");
        keeper.set(5, 1, 3);
        keeper.set(3, 1, 3);
        keeper.set(1, 1, 3);
        due("widest(0)", keeper.widest(0), 1);
        due("widest(1)", keeper.widest(1), 1);
        keeper.set(1, 1, 2);
        due("widest(0)", keeper.widest(0), 3);
    }

    /** "by which, were its SPAN 0, WIDTH is least": not that of the greatest SPAN */
    void promise17ByWhichWidthIsLeast() {
        SpanKeeper keeper = with("a+9*b-c");
        keeper.set(0, 1, 20);
        keeper.set(1, 1, 3);
        keeper.set(2, 1, 19);
        due("widest(0)", keeper.widest(0), 1);
        keeper.set(1, 1, 2);
        due("widest(0)", keeper.widest(0), 0);
    }

    /** "PAST: it is OVER": though by a SPAN of 0 it would not be */
    void promise17PastIfOver() {
        SpanKeeper keeper = with("a*" + TWO62);
        stand(keeper, 0, 1, 1);
        due("widest(0)", keeper.widest(0), -6);
    }

    /** "or its WIDTH is": though by a SPAN of 0 it would not be */
    void promise17PastIfWidthAloneIsOver() {
        SpanKeeper keeper = with("a*" + TWO62);
        stand(keeper, 0, 0, 1);
        due("span(0, 1)", keeper.span(0, 1), TWO62_WORTH);
        due("widest(0)", keeper.widest(0), -6);
    }

    /** "the first that a call's words name": NONE; PAST; NOT */
    void promise17NoneAheadOfPastAheadOfNot() {
        SpanKeeper keeper = with(TOO_GREAT, "a");
        keeper.drop();
        due("widest(0), no span above 0", keeper.widest(0), -6);
        for (int formula : WRONG_NUMBERS) {
            due("widest(" + formula + ")", keeper.widest(formula), -1);
        }
        due("widest(1)", keeper.widest(1), -1);
    }

    /** "what is asked changes nothing" */
    void promise17AskedChangesNothing() {
        unchangedBy(keeper -> {
            for (int formula = -1; formula < 5; formula++) {
                keeper.widest(formula);
            }
            due("widest(1)", keeper.widest(1), 3);
        });
    }

    // ==== promise 18: again

    private void againIs(SpanKeeper keeper, long limit, int set, int cost) {
        due("again(0, " + limit + ", 0)", keeper.again(0, limit, 0), set);
        due("again(0, " + limit + ", 1)", keeper.again(0, limit, 1), cost);
    }

    private SpanKeeper withSpans(String text, int... spans) {
        SpanKeeper keeper = with(text);
        for (int source = 0; source < spans.length; source++) {
            keeper.set(source, 1, spans[source]);
        }
        return keeper;
    }

    /** "a told number at most": WIDTH itself is enough */
    void promise18LimitItselfIsEnough() {
        SpanKeeper keeper = withSpans("a+b", 4, 4);
        againIs(keeper, 17, 0, 0);
        againIs(keeper, 16, 0, 0);
        againIs(keeper, 15, 1, 1);
        againIs(keeper, 12, 1, 1);
        againIs(keeper, 11, 3, 2);
        againIs(keeper, 8, 3, 2);
    }

    /** "NOT: there is none": by all halves WIDTH is 1 too much, or more */
    void promise18NotIfThereIsNone() {
        SpanKeeper keeper = withSpans("a+b", 4, 4);
        againIs(keeper, 7, -5, -5);
        againIs(keeper, 0, -5, -5);
    }

    /** "AGAIN with a limit below 0 is NOT.": though WIDTH is 0 */
    void promise18LimitBelow0IsNot() {
        SpanKeeper keeper = withSpans("a+b", 0, 0);
        againIs(keeper, 0, 0, 0);
        againIs(keeper, -1, -5, -5);
        againIs(keeper, Long.MIN_VALUE, -5, -5);
        keeper.set(0, 1, 20);
        againIs(keeper, -1, -5, -5);
    }

    /** "(bits; none of them, too)": by the greatest limit */
    void promise18NoneOfThemToo() {
        againIs(withSpans("a+b", 20, 20), Long.MAX_VALUE, 0, 0);
        againIs(withSpans("a*(" + TWO62 + "-1)", 1), Long.MAX_VALUE, 0, 0);
        againIs(withSpans("7", 20), 0, 0, 0);
    }

    /** "were their SPANS half (cut)": of 1 it is 0, of 3 it is 1 */
    void promise18HalfIsCut() {
        againIs(withSpans("a", 1), 0, 1, 1);
        againIs(withSpans("a", 3), 2, 1, 1);
        againIs(withSpans("a", 3), 1, -5, -5);
        againIs(withSpans("a", 20), 20, 1, 1);
        againIs(withSpans("a", 19), 18, 1, 1);
        againIs(withSpans("a", 19), 17, -5, -5);
    }

    /** "of all sets of SOURCES (bits": all six of them, at the greatest COST */
    void promise18AllSix() {
        SpanKeeper keeper = withSpans("a+b+c+d+e+f", 20, 20, 20, 20, 20, 20);
        for (int source = 0; source < 6; source++) {
            keeper.set(source, 2, 99);
        }
        againIs(keeper, 120, 63, 594);
        againIs(keeper, 119, -5, -5);
        againIs(keeper, 139, 63, 594);
        againIs(keeper, 140, 31, 495);
    }

    /** "that which COSTS least": not the least set, nor that of the fewest */
    void promise18WhichCostsLeast() {
        SpanKeeper keeper = withSpans("a+b", 4, 4);
        keeper.set(0, 2, 5);
        keeper.set(1, 2, 4);
        againIs(keeper, 12, 2, 4);
        keeper = withSpans("2*a+b+c", 4, 4, 4);
        keeper.set(0, 2, 5);
        keeper.set(1, 2, 2);
        keeper.set(2, 2, 2);
        // a alone, or b and c: 24
        againIs(keeper, 24, 6, 4);
    }

    /** "of like ones the least": of sets that COST alike */
    void promise18LeastSetOfLikeOnes() {
        SpanKeeper keeper = withSpans("a+b+2*c", 4, 4, 4);
        keeper.set(2, 2, 2);
        // a and b, or c alone: 24
        againIs(keeper, 24, 3, 2);
        keeper = withSpans("f+e", 0, 0, 0, 0, 4, 4);
        againIs(keeper, 12, 16, 1);
    }

    /** "a COST (0 .. 99": sets that cost nothing */
    void promise18CostOf0() {
        SpanKeeper keeper = withSpans("a+b", 4, 4);
        for (int source = 0; source < 6; source++) {
            keeper.set(source, 2, 0);
        }
        againIs(keeper, 16, 0, 0);
        againIs(keeper, 12, 1, 0);
        againIs(keeper, 8, 3, 0);
        keeper.set(0, 2, 1);
        againIs(keeper, 12, 2, 0);
        againIs(keeper, 8, 3, 1);
    }

    /** "of like ones the least": one that does not stand in it is not in the set, though it costs nothing */
    void promise18SourceThatDoesNotStandInIt() {
        SpanKeeper keeper = withSpans("b", 20, 4);
        keeper.set(0, 2, 0);
        againIs(keeper, 4, 2, 1);
    }

    /** "PAST: it is OVER, or its WIDTH is (as SPANS are)": though by half it would not be */
    void promise18PastAsSpansAre() {
        SpanKeeper keeper = with("a*" + TWO62);
        stand(keeper, 0, 0, 1);
        againIs(keeper, Long.MAX_VALUE, -6, -6);
        againIs(keeper, 0, -6, -6);
        stand(keeper, 0, 1, 1);
        againIs(keeper, Long.MAX_VALUE, -6, -6);
        againIs(keeper, 0, -6, -6);
        keeper.set(0, 1, 0);
        againIs(keeper, 0, 0, 0);
    }

    /** "PAST: it is OVER": as the shared runs have it, ahead of there being none */
    void promise18PastAheadOfNone() {
        againIs(with(TOO_GREAT), 5, -6, -6);
    }

    /** "NONE: formula, what": also where it is over, where there is none */
    void promise18WrongNumbersAreNone() {
        SpanKeeper keeper = with("a", TOO_GREAT);
        for (int wrong : WRONG_NUMBERS) {
            due("formula " + wrong, keeper.again(wrong, 0, 0), -1);
            due("what " + wrong, keeper.again(0, 0, wrong), -1);
            due("what " + wrong + ", over", keeper.again(1, 0, wrong), -1);
        }
        due("what 2", keeper.again(0, 0, 2), -1);
        due("formula 2, limit below 0", keeper.again(2, -1, 0), -1);
    }

    /** "what is asked changes nothing": in thought alone are spans half */
    void promise18AskedChangesNothing() {
        unchangedBy(keeper -> {
            for (int formula = -1; formula < 5; formula++) {
                keeper.again(formula, 1, 0);
                keeper.again(formula, 9, 1);
            }
            due("again(1, 0, 2)", keeper.again(1, 0, 2), -1);
        });
    }
}
