/** Edges of promises 23 to 29: told widths judged, lists, the image, counts. */
public final class EdgesOfListsTest extends Edges {
    private static final int[] NO_LISTS = {-1, 4, Integer.MIN_VALUE, Integer.MAX_VALUE};

    public static void main(String[] args) {
        goThrough(EdgesOfListsTest::new, 23, 29);
    }

    private SpanKeeper withList(int list, int n, String... texts) {
        SpanKeeper keeper = with(texts);
        due("list(" + list + ", " + n + ")", keeper.list(list, n), 1);
        return keeper;
    }

    // ==== promise 23: judge

    /** "NONE": LISTS 0 .. 3 */
    void promise23NoSuchListIsNone() {
        SpanKeeper keeper = withList(3, 0);
        due("judge(3)", keeper.judge(3), -5);
        for (int list : NO_LISTS) {
            due("judge(" + list + ")", keeper.judge(list), -1);
        }
    }

    /** "NOTHING (-11): none is held" */
    void promise23NothingIsHeld() {
        SpanKeeper keeper = withList(1, 0, "a");
        due("judge(0)", keeper.judge(0), -11);
        due("judge(1)", keeper.judge(1), -5);
        due("judge(2)", keeper.judge(2), -11);
        due("judge(3)", keeper.judge(3), -11);
    }

    /** "An empty LIST is JUDGED -5.": with formulas and without */
    void promise23EmptyListIsLess5() {
        due("without formulas", withList(0, 0).judge(0), -5);
        due("with formulas", withList(0, 0, "a", TOO_GREAT).judge(0), -5);
    }

    /** "the first place that is otherwise"; "-5: none" */
    void promise23FirstPlaceThatIsOtherwise() {
        SpanKeeper keeper = withList(2, 3, "a", "b", "a+b");
        keeper.set(0, 1, 2);
        keeper.set(1, 1, 3);
        due("all are 0", keeper.judge(2), 0);
        keeper.put(2, 0, 4);
        keeper.put(2, 2, 11);
        due("1 and 2 are otherwise", keeper.judge(2), 1);
        keeper.put(2, 1, 6);
        due("2 is otherwise", keeper.judge(2), 2);
        keeper.put(2, 2, 9);
        due("2 is otherwise, by less", keeper.judge(2), 2);
        keeper.put(2, 2, 10);
        due("none is", keeper.judge(2), -5);
        keeper.put(2, 0, 5);
        due("0 is otherwise", keeper.judge(2), 0);
    }

    /** "a LIST tells WIDTHS of FORMULAS 0, 1, ..": of as many as it is long, others don't matter */
    void promise23OthersDoNotMatter() {
        SpanKeeper keeper = withList(0, 1, "7", "a", TOO_GREAT);
        keeper.set(0, 1, 2);
        due("judge(0)", keeper.judge(0), -5);
        due("list(0, 2)", keeper.list(0, 2), 1);
        due("judge(0)", keeper.judge(0), 1);
    }

    /** "(one that is OVER, no such FORMULA, too)": OVER, whatever is told of it */
    void promise23OneThatIsOverIsOtherwise() {
        SpanKeeper keeper = withList(0, 2, "7", TOO_GREAT);
        for (long told : new long[] {0, OVER, NO, -1, Long.MAX_VALUE}) {
            keeper.put(0, 1, told);
            due("judge(0) of " + told, keeper.judge(0), 1);
        }
        keeper = withList(0, 1, TOO_GREAT);
        due("judge(0) of place 0", keeper.judge(0), 0);
    }

    /** "one that is OVER": WIDTH alone, whatever is told of it */
    void promise23WidthAloneOverIsOtherwise() {
        SpanKeeper keeper = withList(0, 1, "a*" + TWO62);
        due("judge(0) without a span", keeper.judge(0), -5);
        keeper.set(0, 1, 1);
        for (long told : new long[] {0, OVER, NO, Long.MAX_VALUE}) {
            keeper.put(0, 0, told);
            due("judge(0) of " + told, keeper.judge(0), 0);
        }
    }

    /** The greatest WIDTH that is a long is judged like others. */
    void promise23GreatestWidth() {
        SpanKeeper keeper = withList(0, 1, "a*(" + TWO62 + "-1)");
        keeper.set(0, 1, 1);
        keeper.put(0, 0, Long.MAX_VALUE);
        due("judge(0)", keeper.judge(0), 0);
        keeper.put(0, 0, Long.MAX_VALUE - 1);
        due("judge(0)", keeper.judge(0), -5);
    }

    /** "no such FORMULA, too": whatever is told of it; behind six there is never one */
    void promise23NoSuchFormulaIsOtherwise() {
        SpanKeeper keeper = withList(0, 1);
        for (long told : new long[] {0, NO, OVER, -1}) {
            keeper.put(0, 0, told);
            due("judge(0) of " + told, keeper.judge(0), 0);
        }
        keeper = withList(0, 8, "1", "2", "3", "4", "5", "6");
        due("judge(0), eight places", keeper.judge(0), 6);
        keeper.drop();
        due("judge(0), one dropped", keeper.judge(0), 5);
        keeper.list(0, 5);
        due("judge(0), five places", keeper.judge(0), -5);
    }

    /** "what is asked changes nothing": it makes no WAY */
    void promise23AskedChangesNothing() {
        unchangedBy(keeper -> {
            for (int list = -1; list < 5; list++) {
                keeper.judge(list);
            }
            due("judge(0)", keeper.judge(0), 0);
        });
    }

    // ==== promise 24: list

    /** "a row of 0 .. 8 longs"; "BAD: n above 8" */
    void promise24From0To8() {
        SpanKeeper keeper = new SpanKeeper();
        for (int n = 0; n <= 8; n++) {
            due("list(0, " + n + ")", keeper.list(0, n), 1);
            due("get(0, " + (n - 1) + ")", keeper.get(0, n - 1), n == 0 ? NO : 0);
            due("get(0, " + n + ")", keeper.get(0, n), NO);
            due("put(0, " + n + ", 0)", keeper.put(0, n, 0), -13);
        }
        due("list(0, 9)", keeper.list(0, 9), -2);
        due("list(0, greatest)", keeper.list(0, Integer.MAX_VALUE), -2);
    }

    /** "BELOW (-14): a size below 0" */
    void promise24Below0IsBelow() {
        SpanKeeper keeper = new SpanKeeper();
        due("list(0, -1)", keeper.list(0, -1), -14);
        due("list(0, least)", keeper.list(0, Integer.MIN_VALUE), -14);
        due("judge(0)", keeper.judge(0), -11);
    }

    /** "NONE: list": LISTS 0 .. 3, ahead of BAD and BELOW */
    void promise24NoneAheadOfBadAndBelow() {
        SpanKeeper keeper = new SpanKeeper();
        due("list(3, 8)", keeper.list(3, 8), 1);
        for (int list : NO_LISTS) {
            due("list(" + list + ", 1)", keeper.list(list, 1), -1);
            due("list(" + list + ", 9)", keeper.list(list, 9), -1);
            due("list(" + list + ", -1)", keeper.list(list, -1), -1);
        }
    }

    /** "becomes a row of n longs, all 0": whatever it held, longer or shorter */
    void promise24AllAre0() {
        SpanKeeper keeper = withList(1, 8);
        for (int n : new int[] {8, 3, 8}) {
            for (int i = 0; i < 8; i++) {
                keeper.put(1, i, i + 1);
            }
            due("list(1, " + n + ")", keeper.list(1, n), 1);
            for (int i = 0; i < 8; i++) {
                due("get(1, " + i + ")", keeper.get(1, i), i < n ? 0 : NO);
            }
        }
    }

    /** A list becomes a row of its own; others stay. */
    void promise24OthersStay() {
        SpanKeeper keeper = withList(1, 2);
        keeper.put(1, 1, 5);
        keeper.list(2, 2);
        keeper.list(0, 2);
        due("get(1, 1)", keeper.get(1, 1), 5);
        due("get(2, 1)", keeper.get(2, 1), 0);
        due("judge(3)", keeper.judge(3), -11);
    }

    /** "What is answered so changes nothing" */
    void promise24RefusedChangesNothing() {
        unchangedBy(keeper -> {
            due("list(0, 9)", keeper.list(0, 9), -2);
            due("list(0, -1)", keeper.list(0, -1), -14);
            due("list(2, 9)", keeper.list(2, 9), -2);
            due("list(4, 1)", keeper.list(4, 1), -1);
        });
    }

    // ==== promise 25: put

    /** "BEYOND (-13): no such place" */
    void promise25NoSuchPlaceIsBeyond() {
        SpanKeeper keeper = withList(0, 8);
        due("put(0, 0, 1)", keeper.put(0, 0, 1), 1);
        due("put(0, 7, 2)", keeper.put(0, 7, 2), 1);
        for (int i : new int[] {-1, 8, Integer.MIN_VALUE, Integer.MAX_VALUE}) {
            due("put(0, " + i + ", 3)", keeper.put(0, i, 3), -13);
        }
        keeper.list(0, 0);
        due("put(0, 0, 3), an empty one", keeper.put(0, 0, 3), -13);
        due("put(0, -1, 3), an empty one", keeper.put(0, -1, 3), -13);
    }

    /** "NONE; NOTHING; BEYOND": the first that is so */
    void promise25NoneAheadOfNothingAheadOfBeyond() {
        SpanKeeper keeper = withList(0, 2);
        for (int list : NO_LISTS) {
            due("put(" + list + ", 0, 1)", keeper.put(list, 0, 1), -1);
            due("put(" + list + ", 9, 1)", keeper.put(list, 9, 1), -1);
        }
        due("put(1, 0, 1)", keeper.put(1, 0, 1), -11);
        due("put(1, 9, 1)", keeper.put(1, 9, 1), -11);
        due("put(1, -1, 1)", keeper.put(1, -1, 1), -11);
        due("put(3, 0, 1)", keeper.put(3, 0, 1), -11);
    }

    /** "a row of longs": any long, also one that is an answer elsewhere */
    void promise25AnyLong() {
        SpanKeeper keeper = withList(3, 1);
        for (long v : new long[] {Long.MIN_VALUE, OVER, Long.MAX_VALUE, -1, -11, 0}) {
            due("put(3, 0, " + v + ")", keeper.put(3, 0, v), 1);
            due("get(3, 0)", keeper.get(3, 0), v);
        }
    }

    /** One place becomes v, no other one. */
    void promise25OthersStay() {
        SpanKeeper keeper = withList(0, 8);
        keeper.list(1, 8);
        keeper.put(0, 3, 9);
        for (int i = 0; i < 8; i++) {
            due("get(0, " + i + ")", keeper.get(0, i), i == 3 ? 9 : 0);
            due("get(1, " + i + ")", keeper.get(1, i), 0);
        }
    }

    /** "What is answered so changes nothing" */
    void promise25RefusedChangesNothing() {
        unchangedBy(keeper -> {
            due("put(0, 3, 7)", keeper.put(0, 3, 7), -13);
            due("put(0, -1, 7)", keeper.put(0, -1, 7), -13);
            due("put(1, 0, 7)", keeper.put(1, 0, 7), -13);
            due("put(2, 0, 7)", keeper.put(2, 0, 7), -11);
            due("put(4, 0, 7)", keeper.put(4, 0, 7), -1);
        });
    }

    // ==== promise 26: get

    /** "NO: no such LIST" */
    void promise26NoSuchListIsNo() {
        SpanKeeper keeper = withList(3, 1);
        keeper.put(3, 0, 4);
        due("get(3, 0)", keeper.get(3, 0), 4);
        for (int list : NO_LISTS) {
            due("get(" + list + ", 0)", keeper.get(list, 0), NO);
        }
    }

    /** "nothing there" */
    void promise26NothingThereIsNo() {
        SpanKeeper keeper = withList(3, 1);
        for (int i : new int[] {-12, -11, -10, -1, 0, 7}) {
            due("get(0, " + i + ")", keeper.get(0, i), NO);
        }
    }

    /** "no such place" */
    void promise26NoSuchPlaceIsNo() {
        SpanKeeper keeper = withList(0, 8);
        keeper.put(0, 0, 3);
        keeper.put(0, 7, 5);
        due("get(0, 0)", keeper.get(0, 0), 3);
        due("get(0, 7)", keeper.get(0, 7), 5);
        for (int i : new int[] {-1, 8, Integer.MIN_VALUE, Integer.MAX_VALUE}) {
            due("get(0, " + i + ")", keeper.get(0, i), NO);
        }
        keeper.list(0, 0);
        due("get(0, 0), an empty one", keeper.get(0, 0), NO);
    }

    /** "what is asked changes nothing" */
    void promise26AskedChangesNothing() {
        unchangedBy(keeper -> {
            for (int i = -1; i < 9; i++) {
                keeper.get(0, i);
                keeper.get(i, 0);
            }
            due("get(0, 2)", keeper.get(0, 2), -8);
        });
    }

    // ==== promises 27 and 28: image, undo

    /** "THE IMAGE is taken: how many FORMULAS": none to six */
    void promise27HowManyFormulas() {
        SpanKeeper keeper = new SpanKeeper();
        for (int formulas = 0; formulas < 6; formulas++) {
            due("image()", keeper.image(), formulas);
            read(keeper, "a");
        }
        due("image()", keeper.image(), 6);
    }

    /** What is taken changes nothing of what it is taken of. */
    void promise27TakenOfItLeavesItAsItIs() {
        unchangedBy(EdgesOfListsTest::taken, keeper -> due("image()", keeper.image(), 4));
    }

    private static SpanKeeper taken() {
        SpanKeeper keeper = busy();
        keeper.image();
        return keeper;
    }

    /** A later image is in the place of an earlier one. */
    void promise27TheLatestStands() {
        SpanKeeper keeper = with("a");
        keeper.set(0, 0, 1);
        due("image()", keeper.image(), 1);
        keeper.set(0, 0, 2);
        read(keeper, "b");
        due("image()", keeper.image(), 2);
        keeper.set(0, 0, 3);
        due("undo()", keeper.undo(), 2);
        due("of(0, 0)", keeper.of(0, 0), 2);
    }

    /** "STATE: there is none." */
    void promise28NoImageIsState() {
        SpanKeeper keeper = with("a");
        keeper.set(0, 0, 5);
        due("undo()", keeper.undo(), -3);
        due("image()", keeper.image(), 1);
        due("undo()", keeper.undo(), 1);
    }

    /** "What is answered so changes nothing": STATE */
    void promise28StateChangesNothing() {
        unchangedBy(() -> {
            SpanKeeper keeper = with("a*b", TOO_GREAT);
            stand(keeper, 0, 5, 2);
            keeper.plan(0, 0, 4);
            keeper.list(0, 2);
            keeper.span(1, 0);
            keeper.feed('a');
            return keeper;
        }, keeper -> due("undo()", keeper.undo(), -3));
    }

    /** "THE IMAGE: SOURCES": VALUE, SPAN, COST of each */
    void promise28SourcesAreAsInTheImage() {
        SpanKeeper keeper = new SpanKeeper();
        for (int source = 0; source < 6; source++) {
            stand(keeper, source, source - 3, source + 4);
            keeper.set(source, 2, 10 * source);
        }
        keeper.image();
        for (int source = 0; source < 6; source++) {
            stand(keeper, source, 50, 20);
            keeper.set(source, 2, 99);
        }
        due("undo()", keeper.undo(), 0);
        for (int source = 0; source < 6; source++) {
            due("of(" + source + ", 0)", keeper.of(source, 0), source - 3);
            due("of(" + source + ", 1)", keeper.of(source, 1), source + 4);
            due("of(" + source + ", 2)", keeper.of(source, 2), 10 * source);
        }
    }

    /** "THE IMAGE: FORMULAS": ones that were dropped are there again, ones that came are no more */
    void promise28FormulasAreAsInTheImage() {
        SpanKeeper keeper = with("1", "2");
        keeper.image();
        keeper.drop();
        keeper.drop();
        read(keeper, "7");
        read(keeper, "8");
        read(keeper, "9");
        due("undo()", keeper.undo(), 2);
        due("exact(0)", keeper.exact(0), 1);
        due("exact(1)", keeper.exact(1), 2);
        due("exact(2)", keeper.exact(2), NO);
        due("a third", read(keeper, "3"), 2);
    }

    /** "how many FORMULAS": back to none, back to six */
    void promise28BackToNoneAndToSix() {
        SpanKeeper keeper = new SpanKeeper();
        keeper.image();
        for (int formulas = 0; formulas < 6; formulas++) {
            read(keeper, "a+" + formulas);
        }
        due("undo()", keeper.undo(), 0);
        due("drop()", keeper.drop(), -3);
        for (int formulas = 0; formulas < 6; formulas++) {
            read(keeper, "b+" + formulas);
        }
        keeper.image();
        for (int formulas = 0; formulas < 6; formulas++) {
            keeper.drop();
        }
        due("undo()", keeper.undo(), 6);
        due("exact(5)", keeper.exact(5), 5);
        due("parts(0, 3)", keeper.parts(0, 3), 2);
        due("a seventh", read(keeper, "a"), -4);
    }

    /** "THE IMAGE: the PLAN": its rows, how many there are */
    void promise28PlanIsAsInTheImage() {
        SpanKeeper keeper = with("a*b");
        stand(keeper, 0, 0, 20);
        keeper.set(1, 0, 1);
        keeper.plan(0, 2, 1);
        keeper.plan(1, 0, 3);
        due("ends(0)", keeper.ends(0), 60);
        keeper.image();
        keeper.plan(-1, 0, 0);
        for (int rows = 0; rows < 8; rows++) {
            keeper.plan(0, 1, 0);
        }
        due("ends(0)", keeper.ends(0), 0);
        due("undo()", keeper.undo(), 1);
        due("count(2)", keeper.count(2), 2);
        due("ends(0)", keeper.ends(0), 60);
        due("a third row", keeper.plan(0, 1, 2), 3);
        due("ends(0)", keeper.ends(0), 12);
    }

    /** "(not LISTS" */
    void promise28ListsStay() {
        SpanKeeper keeper = withList(0, 2);
        keeper.put(0, 1, 4);
        keeper.image();
        keeper.put(0, 1, 5);
        keeper.list(1, 3);
        keeper.undo();
        due("get(0, 1)", keeper.get(0, 1), 5);
        due("get(1, 2)", keeper.get(1, 2), 0);
        keeper.list(0, 1);
        keeper.undo();
        due("get(0, 1)", keeper.get(0, 1), NO);
    }

    /** "not .. THE TAPE" */
    void promise28TapeStays() {
        SpanKeeper keeper = with("1");
        keeper.feed('a');
        keeper.image();
        keeper.feed('+');
        keeper.undo();
        due("count(1)", keeper.count(1), 2);
        keeper.feed('4');
        due("a formula", keeper.formula(), 1);
        due("its parts", keeper.parts(1, 0), 3);
        keeper.undo();
        due("count(1)", keeper.count(1), 0);
    }

    /** "not .. THE WAY" */
    void promise28WayStays() {
        SpanKeeper keeper = with(TOO_GREAT, "-(" + TOO_GREAT + ")");
        keeper.image();
        keeper.span(1, 0);
        keeper.drop();
        due("undo()", keeper.undo(), 2);
        wayIs(keeper, 21, 0);
        keeper.span(0, 0);
        keeper.undo();
        wayIs(keeper, 19);
    }

    /** "All is as THE IMAGE": the image stays, so again and again */
    void promise28ImageStays() {
        SpanKeeper keeper = with("a", "b");
        stand(keeper, 0, 5, 2);
        keeper.plan(0, 1, 3);
        keeper.image();
        for (int again = 0; again < 3; again++) {
            stand(keeper, 0, again, 9);
            keeper.drop();
            keeper.drop();
            read(keeper, "c+" + again);
            keeper.plan(-1, 0, 0);
            keeper.plan(2, 2, again);
            due("undo()", keeper.undo(), 2);
            due("of(0, 0)", keeper.of(0, 0), 5);
            due("span(0, 2)", keeper.span(0, 2), 4);
            due("ends(0)", keeper.ends(0), 6);
            due("exact(0)", keeper.exact(0), 5);
        }
    }

    // ==== promise 29: count

    /** "BAD": what 0 .. 4 */
    void promise29WhatsFrom0To4() {
        SpanKeeper keeper = with("a", TOO_GREAT);
        keeper.feed('a');
        keeper.plan(0, 0, 0);
        keeper.plan(0, 0, 0);
        keeper.plan(0, 0, 0);
        int[] answers = {2, 1, 3, 1, 0};
        for (int what = 0; what < 5; what++) {
            due("count(" + what + ")", keeper.count(what), answers[what]);
        }
        for (int what : new int[] {-1, 5, Integer.MIN_VALUE, Integer.MAX_VALUE}) {
            due("count(" + what + ")", keeper.count(what), -2);
        }
    }

    /** As many as there may be: 6, 60, 8, 6, 6 */
    void promise29MostOfEach() {
        SpanKeeper keeper = new SpanKeeper();
        for (int i = 0; i < 6; i++) {
            read(keeper, TOO_GREAT);
            keeper.set(i, 1, 1);
        }
        for (int i = 0; i < 9; i++) {
            keeper.plan(0, 0, i);
        }
        for (int i = 0; i < 61; i++) {
            keeper.feed('a');
        }
        int[] answers = {6, 60, 8, 6, 6};
        for (int what = 0; what < 5; what++) {
            due("count(" + what + ")", keeper.count(what), answers[what]);
        }
    }

    /** "3 FORMULAS that are OVER": not one of which WIDTH alone is */
    void promise29WidthAloneDoesNotCount() {
        SpanKeeper keeper = with("a*" + TWO62, "b");
        keeper.set(0, 1, 1);
        due("span(0, 2)", keeper.span(0, 2), OVER);
        due("count(3)", keeper.count(3), 0);
        keeper.set(0, 0, 1);
        due("count(3)", keeper.count(3), 1);
    }

    /** "3 FORMULAS that are OVER": as sources stand now, and without making a WAY */
    void promise29OverAsSourcesStandNow() {
        SpanKeeper keeper = with("a*" + TWO62, "b*" + TWO62);
        due("count(3)", keeper.count(3), 0);
        keeper.set(1, 0, 2);
        due("count(3)", keeper.count(3), 1);
        keeper.set(0, 0, 2);
        due("count(3)", keeper.count(3), 2);
        keeper.set(1, 0, 1);
        due("count(3)", keeper.count(3), 1);
        due("way(-1)", keeper.way(-1), 0);
    }

    /** "4 SOURCES with a SPAN above 0": whether a formula has them or not, whatever their VALUES */
    void promise29SpansAbove0() {
        SpanKeeper keeper = new SpanKeeper();
        for (int source = 0; source < 6; source++) {
            keeper.set(source, 0, 9);
            due("count(4)", keeper.count(4), source);
            keeper.set(source, 1, source % 2 == 0 ? 1 : 20);
            due("count(4)", keeper.count(4), source + 1);
        }
        keeper.set(3, 1, 0);
        due("count(4)", keeper.count(4), 5);
    }

    /** "what is asked changes nothing" */
    void promise29AskedChangesNothing() {
        unchangedBy(keeper -> {
            for (int what = -1; what < 6; what++) {
                keeper.count(what);
            }
            due("count(3)", keeper.count(3), 1);
        });
    }

    /** "used for at most 512 calls": the 512th is like the first; a later one only must not throw */
    void promise29The512thCall() {
        SpanKeeper keeper = new SpanKeeper();
        for (int call = 1; call < 512; call++) {
            keeper.set(0, 0, call % 99);
        }
        due("the 512th call", keeper.set(0, 0, 7), 511 % 99);
        for (int call = 0; call < 2000; call++) {
            read(keeper, "a+b*9999");
            keeper.span(0, 2);
            keeper.plan(0, 0, 1);
        }
    }
}
