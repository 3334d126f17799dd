/** Edges of promises 1 to 8: a new object, sources, the tape, formulas, their parts. */
public final class EdgesOfFormulasTest extends Edges {
    public static void main(String[] args) {
        goThrough(EdgesOfFormulasTest::new, 1, 8);
    }

    // ==== promise 1: a new object

    /** "No FORMULAS." */
    void promise1NoFormulas() {
        SpanKeeper keeper = new SpanKeeper();
        due("count(0)", keeper.count(0), 0);
        due("count(3)", keeper.count(3), 0);
        due("exact(0)", keeper.exact(0), NO);
        due("parts(0, 0)", keeper.parts(0, 0), -1);
        due("drop()", keeper.drop(), -3);
    }

    /** "have each a VALUE (-99 .. 99; 0 at first)" */
    void promise1ValuesAre0AtFirst() {
        SpanKeeper keeper = new SpanKeeper();
        for (int source = 0; source < 6; source++) {
            due("of(" + source + ", 0)", keeper.of(source, 0), 0);
        }
    }

    /** "a SPAN (0 .. 20; 0 at first)" */
    void promise1SpansAre0AtFirst() {
        SpanKeeper keeper = new SpanKeeper();
        for (int source = 0; source < 6; source++) {
            due("of(" + source + ", 1)", keeper.of(source, 1), 0);
        }
        due("count(4)", keeper.count(4), 0);
    }

    /** "a COST (0 .. 99; 1 at first)" */
    void promise1CostsAre1AtFirst() {
        SpanKeeper keeper = new SpanKeeper();
        for (int source = 0; source < 6; source++) {
            due("of(" + source + ", 2)", keeper.of(source, 2), 1);
        }
    }

    /** "LISTS 0 .. 3 hold nothing (at first)" */
    void promise1ListsHoldNothingAtFirst() {
        SpanKeeper keeper = new SpanKeeper();
        for (int list = 0; list < 4; list++) {
            due("judge(" + list + ")", keeper.judge(list), -11);
            due("put(" + list + ", 0, 5)", keeper.put(list, 0, 5), -11);
            due("get(" + list + ", 0)", keeper.get(list, 0), NO);
        }
    }

    /** "that is 0, if none was OVER yet" */
    void promise1NoWayYet() {
        SpanKeeper keeper = new SpanKeeper();
        due("way(-1)", keeper.way(-1), 0);
        due("way(0)", keeper.way(0), -1);
    }

    /** "STATE: there is none" of THE IMAGE */
    void promise1NoImageYet() {
        due("undo()", new SpanKeeper().undo(), -3);
    }

    /** A tape and a plan that nothing came to are empty. */
    void promise1TapeAndPlanAreEmpty() {
        SpanKeeper keeper = new SpanKeeper();
        due("count(1)", keeper.count(1), 0);
        due("count(2)", keeper.count(2), 0);
        due("feed(97)", keeper.feed('a'), 1);
        due("plan(0, 0, 0)", keeper.plan(0, 0, 0), 1);
    }

    /** Objects are apart: what the one has had, a new one has not. */
    void promise1ObjectsAreApart() {
        SpanKeeper other = full();
        due("the other's formulas", other.count(0), 6);
        SpanKeeper keeper = new SpanKeeper();
        for (int what = 0; what < 5; what++) {
            due("count(" + what + ")", keeper.count(what), 0);
        }
        due("way(-1)", keeper.way(-1), 0);
        due("undo()", keeper.undo(), -3);
        due("get(0, 2)", keeper.get(0, 2), NO);
        due("of(5, 2)", keeper.of(5, 2), 1);
    }

    // ==== promise 2: set

    /** "VALUE (-99 .. 99"; "-1001: v" */
    void promise2ValuesFromLess99To99() {
        SpanKeeper keeper = new SpanKeeper();
        int was = 0;
        for (int v = -99; v <= 99; v++) {
            due("set(4, 0, " + v + ")", keeper.set(4, 0, v), was);
            was = v;
        }
        for (int v : new int[] {-100, 100, Integer.MIN_VALUE, Integer.MAX_VALUE}) {
            due("set(4, 0, " + v + ")", keeper.set(4, 0, v), -1001);
        }
        due("of(4, 0)", keeper.of(4, 0), 99);
    }

    /** "a SPAN (0 .. 20" */
    void promise2SpansFrom0To20() {
        SpanKeeper keeper = new SpanKeeper();
        int was = 0;
        for (int v = 20; v >= 0; v--) {
            due("set(4, 1, " + v + ")", keeper.set(4, 1, v), was);
            was = v;
        }
        for (int v : new int[] {-1, 21, -20, Integer.MIN_VALUE, Integer.MAX_VALUE}) {
            due("set(4, 1, " + v + ")", keeper.set(4, 1, v), -1001);
        }
        due("of(4, 1)", keeper.of(4, 1), 0);
    }

    /** "a COST (0 .. 99" */
    void promise2CostsFrom0To99() {
        SpanKeeper keeper = new SpanKeeper();
        int was = 1;
        for (int v = 99; v >= 0; v--) {
            due("set(4, 2, " + v + ")", keeper.set(4, 2, v), was);
            was = v;
        }
        for (int v : new int[] {-1, 100, -99, Integer.MIN_VALUE, Integer.MAX_VALUE}) {
            due("set(4, 2, " + v + ")", keeper.set(4, 2, v), -1001);
        }
        due("of(4, 2)", keeper.of(4, 2), 0);
    }

    /** "becomes v: what it was": the same v again is no other case */
    void promise2AnswersWhatItWas() {
        SpanKeeper keeper = new SpanKeeper();
        due("set(0, 0, -5)", keeper.set(0, 0, -5), 0);
        due("set(0, 0, -5)", keeper.set(0, 0, -5), -5);
        due("set(0, 0, 0)", keeper.set(0, 0, 0), -5);
        due("set(0, 1, 20)", keeper.set(0, 1, 20), 0);
        due("set(0, 1, 20)", keeper.set(0, 1, 20), 20);
        due("set(0, 2, 1)", keeper.set(0, 2, 1), 1);
    }

    /** "SOURCES 0 .. 5"; "-1000: source, what" */
    void promise2SourcesFrom0To5() {
        SpanKeeper keeper = new SpanKeeper();
        for (int what = 0; what < 3; what++) {
            int first = what == 2 ? 1 : 0;
            due("set(0, " + what + ", 1)", keeper.set(0, what, 1), first);
            due("set(5, " + what + ", 1)", keeper.set(5, what, 1), first);
            for (int source : new int[] {-1, 6, Integer.MIN_VALUE, Integer.MAX_VALUE}) {
                due("set(" + source + ", " + what + ", 1)", keeper.set(source, what, 1), -1000);
            }
        }
    }

    /** "VALUE (what 0), SPAN (1), COST (2)": 3 and 4, which of() tells, can't be set */
    void promise2WhatsFrom0To2() {
        SpanKeeper keeper = new SpanKeeper();
        for (int what : new int[] {-1, 3, 4, Integer.MIN_VALUE, Integer.MAX_VALUE}) {
            due("set(0, " + what + ", 0)", keeper.set(0, what, 0), -1000);
        }
        due("set(0, 2, 0)", keeper.set(0, 2, 0), 1);
    }

    /** "the first that a call's words name": -1000 ahead of -1001 */
    void promise2SourceAndWhatAheadOfV() {
        SpanKeeper keeper = new SpanKeeper();
        due("set(6, 0, 100)", keeper.set(6, 0, 100), -1000);
        due("set(0, 3, 100)", keeper.set(0, 3, 100), -1000);
        due("set(-1, -1, 100)", keeper.set(-1, -1, 100), -1000);
    }

    /** "What is answered so changes nothing" */
    void promise2RefusedChangesNothing() {
        unchangedBy(keeper -> {
            due("set(0, 0, 100)", keeper.set(0, 0, 100), -1001);
            due("set(0, 1, 21)", keeper.set(0, 1, 21), -1001);
            due("set(0, 2, -1)", keeper.set(0, 2, -1), -1001);
            due("set(6, 0, 7)", keeper.set(6, 0, 7), -1000);
            due("set(0, 3, 7)", keeper.set(0, 3, 7), -1000);
        });
    }

    /** One thing of one source becomes v, no other one. */
    void promise2OthersStay() {
        SpanKeeper keeper = new SpanKeeper();
        keeper.set(2, 1, 13);
        for (int source = 0; source < 6; source++) {
            due("of(" + source + ", 0)", keeper.of(source, 0), 0);
            due("of(" + source + ", 1)", keeper.of(source, 1), source == 2 ? 13 : 0);
            due("of(" + source + ", 2)", keeper.of(source, 2), 1);
        }
    }

    // ==== promise 3: of

    /** "LOW of it: VALUE less SPAN": it may lie below -99 */
    void promise3LowIsValueLessSpan() {
        SpanKeeper keeper = new SpanKeeper();
        stand(keeper, 3, -99, 20);
        due("of(3, 3)", keeper.of(3, 3), -119);
        stand(keeper, 3, 99, 0);
        due("of(3, 3)", keeper.of(3, 3), 99);
        stand(keeper, 3, 20, 20);
        due("of(3, 3)", keeper.of(3, 3), 0);
    }

    /** "HIGH: VALUE and SPAN together": it may lie above 99 */
    void promise3HighIsValueAndSpan() {
        SpanKeeper keeper = new SpanKeeper();
        stand(keeper, 3, 99, 20);
        due("of(3, 4)", keeper.of(3, 4), 119);
        stand(keeper, 3, -99, 0);
        due("of(3, 4)", keeper.of(3, 4), -99);
        stand(keeper, 3, -20, 20);
        due("of(3, 4)", keeper.of(3, 4), 0);
    }

    /** "what 0 .. 2 as of set(), 3 LOW, 4 HIGH. -1000: none such." */
    void promise3WhatsFrom0To4() {
        SpanKeeper keeper = new SpanKeeper();
        stand(keeper, 5, 10, 4);
        keeper.set(5, 2, 77);
        int[] answers = {10, 4, 77, 6, 14};
        for (int what = 0; what < 5; what++) {
            due("of(5, " + what + ")", keeper.of(5, what), answers[what]);
        }
        for (int what : new int[] {-1, 5, Integer.MIN_VALUE, Integer.MAX_VALUE}) {
            due("of(5, " + what + ")", keeper.of(5, what), -1000);
        }
    }

    /** "SOURCES 0 .. 5"; "-1000: none such." */
    void promise3SourcesFrom0To5() {
        SpanKeeper keeper = new SpanKeeper();
        for (int what = 0; what < 5; what++) {
            due("of(0, " + what + ")", keeper.of(0, what), what == 2 ? 1 : 0);
            due("of(5, " + what + ")", keeper.of(5, what), what == 2 ? 1 : 0);
            for (int source : new int[] {-1, 6, Integer.MIN_VALUE, Integer.MAX_VALUE}) {
                due("of(" + source + ", " + what + ")", keeper.of(source, what), -1000);
            }
        }
    }

    /** "what is asked changes nothing" */
    void promise3AskedChangesNothing() {
        unchangedBy(keeper -> {
            for (int what = -1; what < 6; what++) {
                keeper.of(what, what);
                keeper.of(4, what);
            }
            due("of(4, 4)", keeper.of(4, 4), 1);
        });
    }

    // ==== promise 4: feed

    /** "A byte (1 .. 127) comes behind THE TAPE's"; "BAD" */
    void promise4BytesFrom1To127() {
        for (int letter = 1; letter <= 127; letter++) {
            due("feed(" + letter + ")", new SpanKeeper().feed(letter), 1);
        }
        for (int letter : new int[] {0, -1, 128, 255, 256 + 'a', Integer.MIN_VALUE, Integer.MAX_VALUE}) {
            due("feed(" + letter + ")", new SpanKeeper().feed(letter), -2);
        }
    }

    /** "THE TAPE (60 bytes at most)": "how many it has"; "FULL" */
    void promise4SixtyBytesAtMost() {
        SpanKeeper keeper = new SpanKeeper();
        for (int bytes = 1; bytes <= 60; bytes++) {
            due("feed(1)", keeper.feed(1), bytes);
        }
        due("the 61st", keeper.feed(1), -4);
        due("the 61st again", keeper.feed('a'), -4);
        due("count(1)", keeper.count(1), 60);
    }

    /** "the first that a call's words name": BAD ahead of FULL */
    void promise4BadAheadOfFull() {
        SpanKeeper keeper = full();
        due("feed(0)", keeper.feed(0), -2);
        due("feed(128)", keeper.feed(128), -2);
        due("feed(127)", keeper.feed(127), -4);
    }

    /** "What is answered so changes nothing": BAD */
    void promise4BadChangesNothing() {
        unchangedBy(keeper -> {
            due("feed(0)", keeper.feed(0), -2);
            due("feed(128)", keeper.feed(128), -2);
        });
    }

    /** "What is answered so changes nothing": FULL */
    void promise4FullChangesNothing() {
        unchangedBy(Edges::full, keeper -> due("feed(98)", keeper.feed('b'), -4));
        SpanKeeper keeper = new SpanKeeper();
        feed(keeper, "-a+a+a+a+a+a+a+a+a+a+a+a+a+a+a+a+a+a+a+a+a+a+a+a+a+a+a+a+a+a");
        due("the 61st", keeper.feed('g'), -4);
        due("the 60 are read", keeper.formula(), 0);
        due("their parts", keeper.parts(0, 0), 60);
    }

    /** "THE TAPE is empty behind each call that reads it": bytes are counted from 1 again */
    void promise4CountsFrom1BehindAReading() {
        SpanKeeper keeper = new SpanKeeper();
        due("a formula", read(keeper, "a+b"), 0);
        due("feed(97)", keeper.feed('a'), 1);
        due("a fault", keeper.feed('+') == 2 ? keeper.formula() : 0, -102);
        due("feed(97)", keeper.feed('a'), 1);
    }

    // ==== promise 5: formula

    /** "a letter a .. f" */
    void promise5LettersFromAToF() {
        for (char letter = 'a'; letter <= 'f'; letter++) {
            SpanKeeper keeper = with(String.valueOf(letter));
            keeper.set(letter - 'a', 0, 9);
            due("exact of " + letter, keeper.exact(0), 9);
        }
        for (String text : new String[] {"`", "g", "A", "F", "z"}) {
            due("formula of " + text, read(new SpanKeeper(), text), -100);
        }
    }

    /** "a number (1 to 4 figures)": a fifth figure is at fault, leading ones of 0, too */
    void promise5NumbersOf1To4Figures() {
        String[] texts = {"0", "9", "10", "099", "999", "0000", "9999"};
        long[] worths = {0, 9, 10, 99, 999, 0, 9999};
        for (int i = 0; i < texts.length; i++) {
            due("exact of " + texts[i], with(texts[i]).exact(0), worths[i]);
        }
        due("formula of 10000", read(new SpanKeeper(), "10000"), -104);
        due("formula of 00001", read(new SpanKeeper(), "00001"), -104);
        due("formula of a+12345", read(new SpanKeeper(), "a+12345"), -106);
        due("formula of (12345)", read(new SpanKeeper(), "(12345)"), -105);
    }

    /** "a number": the bytes beside the figures are none */
    void promise5BytesBesideFigures() {
        due("formula of /", read(new SpanKeeper(), "/"), -100);
        due("formula of :", read(new SpanKeeper(), ":"), -100);
        due("formula of 1/", read(new SpanKeeper(), "1/"), -101);
        due("formula of 1:", read(new SpanKeeper(), "1:"), -101);
        due("formula of 1.5", read(new SpanKeeper(), "1.5"), -101);
    }

    /** "No blanks" */
    void promise5NoBlanks() {
        due("formula of ' a'", read(new SpanKeeper(), " a"), -100);
        due("formula of 'a '", read(new SpanKeeper(), "a "), -101);
        due("formula of 'a +b'", read(new SpanKeeper(), "a +b"), -101);
        due("formula of 'a+ b'", read(new SpanKeeper(), "a+ b"), -102);
        due("formula of '1 2'", read(new SpanKeeper(), "1 2"), -101);
        due("formula of '(a )'", read(new SpanKeeper(), "(a )"), -102);
    }

    /** "at most 6 of ( and of - ahead of an F are open at once": of ( */
    void promise5SixParenthesesOpenAtMost() {
        due("six", read(new SpanKeeper(), "((((((a))))))"), 0);
        due("seven", read(new SpanKeeper(), "(((((((a)))))))"), -106);
    }

    /** "at most 6 of ( and of - ahead of an F are open at once": of - */
    void promise5SixLessOpenAtMost() {
        due("six", read(new SpanKeeper(), "------a"), 0);
        due("seven", read(new SpanKeeper(), "-------a"), -106);
    }

    /** "at most 6 of ( and of - ahead of an F are open at once": of both together */
    void promise5SixOfBothOpenAtMost() {
        due("three and three", read(new SpanKeeper(), "-(-(-(a)))"), 0);
        due("three and three, a - more", read(new SpanKeeper(), "-(-(-(-a)))"), -106);
        due("three and three, a ( more", read(new SpanKeeper(), "-(-(-((a))))"), -106);
        due("five and one", read(new SpanKeeper(), "(((((-a)))))"), 0);
        due("six and one", read(new SpanKeeper(), "((((((-a))))))"), -106);
        due("one and six", read(new SpanKeeper(), "------(a)"), -106);
    }

    /** "open at once": one that is closed counts no more */
    void promise5ClosedOnesCountNoMore() {
        due("eight ( in all", read(new SpanKeeper(), "(a)*(a)*(a)*(a)*(a)*(a)*(a)*(a)"), 0);
        due("nine - in all", read(new SpanKeeper(), "-a*-a*-a*-a*-a*-a*-a*-a*-a"), 0);
        due("six twice", read(new SpanKeeper(), "((((((a))))))+------a*((((((a))))))"), 0);
        due("five behind a closed one", read(new SpanKeeper(), "(-a*-----a)"), 0);
        due("six behind a closed one", read(new SpanKeeper(), "(-a*------a)"), -109);
    }

    /** "- ahead of an F": a - between is none */
    void promise5LessBetweenIsNoneAhead() {
        due("eight between", read(new SpanKeeper(), "a-a-a-a-a-a-a-a-a"), 0);
        due("one between, six ahead", read(new SpanKeeper(), "a-------a"), 0);
        due("one between, seven ahead", read(new SpanKeeper(), "a--------a"), -108);
        due("between, in six (", read(new SpanKeeper(), "((((((a-a-a))))))"), 0);
        due("between and ahead, in six (", read(new SpanKeeper(), "((((((a--a))))))"), -108);
    }

    /** "more with + or -", "with *": none ahead of the first, one between each two */
    void promise5SignsStandBetween() {
        due("formula of +a", read(new SpanKeeper(), "+a"), -100);
        due("formula of *a", read(new SpanKeeper(), "*a"), -100);
        due("formula of a++a", read(new SpanKeeper(), "a++a"), -102);
        due("formula of a**a", read(new SpanKeeper(), "a**a"), -102);
        due("formula of a*+a", read(new SpanKeeper(), "a*+a"), -102);
        due("formula of a*-a", read(new SpanKeeper(), "a*-a"), 0);
        due("formula of ab", read(new SpanKeeper(), "ab"), -101);
        due("formula of 2a", read(new SpanKeeper(), "2a"), -101);
        due("formula of a(a)", read(new SpanKeeper(), "a(a)"), -101);
        due("formula of (a)(a)", read(new SpanKeeper(), "(a)(a)"), -103);
    }

    /** "(E)": not empty, closed once */
    void promise5ParenthesesHoldAnE() {
        due("formula of ()", read(new SpanKeeper(), "()"), -101);
        due("formula of )", read(new SpanKeeper(), ")"), -100);
        due("formula of a)", read(new SpanKeeper(), "a)"), -101);
        due("formula of (a))", read(new SpanKeeper(), "(a))"), -103);
        due("formula of (a+)", read(new SpanKeeper(), "(a+)"), -103);
        due("formula of -)", read(new SpanKeeper(), "-)"), -101);
    }

    /** "the length, if it ends too early": an empty tape has length 0 */
    void promise5EmptyTapeHasFault0() {
        due("formula()", new SpanKeeper().formula(), -100);
    }

    /** "the length, if it ends too early" */
    void promise5FaultIsTheLengthIfItEndsTooEarly() {
        String[] texts = {"-", "(", "a+", "a-", "a*", "(a", "(a)*", "((a)", "(a+9999", "------"};
        for (String text : texts) {
            due("formula of " + text, read(new SpanKeeper(), text), -100 - text.length());
        }
    }

    /** "the length, if it ends too early": of 60 bytes it is 60 */
    void promise5FaultIs60IfAFullTapeEndsTooEarly() {
        String most = "a+a+a+a+a+a+a+a+a+a+a+a+a+a+a+a+a+a+a+a+a+a+a+a+a+a+a+a+a+a";
        due("ends in +", read(new SpanKeeper(), most + "+"), -160);
        due("not closed", read(new SpanKeeper(), "(" + most), -160);
    }

    /** "the place (from 0) of the first byte with which no FORMULA goes on": 59 is the last one */
    void promise5FaultAtTheLastByte() {
        String most = "a+a+a+a+a+a+a+a+a+a+a+a+a+a+a+a+a+a+a+a+a+a+a+a+a+a+a+a+a+a";
        due("a letter behind a letter", read(new SpanKeeper(), most + "a"), -159);
        due("none open", read(new SpanKeeper(), most + ")"), -159);
    }

    /** "the first byte with which no FORMULA goes on": not a later one, nor one that is missing */
    void promise5FaultIsTheFirst() {
        due("formula of a++b)g", read(new SpanKeeper(), "a++b)g"), -102);
        due("formula of (a+b(", read(new SpanKeeper(), "(a+b("), -104);
        due("formula of g+g", read(new SpanKeeper(), "g+g"), -100);
        due("formula of (((a=", read(new SpanKeeper(), "(((a="), -104);
    }

    /** Bytes 1 and 127, which the tape takes, stand in no formula. */
    void promise5UtmostBytesAreAtFault() {
        due("formula of byte 1", read(new SpanKeeper(), "\u0001"), -100);
        due("formula of byte 127", read(new SpanKeeper(), "\u007f"), -100);
        due("formula of a, byte 1", read(new SpanKeeper(), "a\u0001"), -101);
        due("formula of a, byte 127", read(new SpanKeeper(), "a\u007f"), -101);
    }

    /** "FORMULAS 0 .. 5, as they come"; "FULL: six." */
    void promise5SixFormulasAtMost() {
        SpanKeeper keeper = with("a", "b", "c", "d", "e", "f");
        due("a seventh", read(keeper, "a"), -4);
        due("count(0)", keeper.count(0), 6);
        due("exact(6)", keeper.exact(6), NO);
    }

    /** "-100 less a FAULT (ahead of FULL)" */
    void promise5FaultAheadOfFull() {
        SpanKeeper keeper = with("a", "b", "c", "d", "e", "f");
        due("an empty tape", keeper.formula(), -100);
        due("a fault", read(keeper, "a+"), -102);
        due("none", read(keeper, "a+a"), -4);
    }

    /** "THE TAPE is empty behind each call that reads it": a formula */
    void promise5FormulaEmptiesTheTape() {
        SpanKeeper keeper = with("a");
        due("count(1)", keeper.count(1), 0);
        due("formula()", keeper.formula(), -100);
    }

    /** "THE TAPE is empty behind each call that reads it": a fault */
    void promise5FaultEmptiesTheTape() {
        SpanKeeper keeper = new SpanKeeper();
        due("a fault", read(keeper, "a+"), -102);
        due("count(1)", keeper.count(1), 0);
        due("what follows is read alone", read(keeper, "b"), 0);
        due("parts(0, 3)", keeper.parts(0, 3), 2);
    }

    /** "THE TAPE is empty behind each call that reads it": FULL */
    void promise5FullEmptiesTheTape() {
        SpanKeeper keeper = with("a", "b", "c", "d", "e", "f");
        due("a seventh", read(keeper, "a"), -4);
        due("count(1)", keeper.count(1), 0);
        due("drop()", keeper.drop(), 5);
        due("formula()", keeper.formula(), -100);
    }

    /** "What is answered so changes nothing": a fault makes no formula, the tape alone is empty */
    void promise5FaultChangesNothingElse() {
        unchangedBy(EdgesOfFormulasTest::busyWithoutTape, keeper -> {
            due("a fault", read(keeper, "a+a+"), -104);
            due("an empty tape", keeper.formula(), -100);
        });
    }

    /** "What is answered so changes nothing": FULL */
    void promise5FullChangesNothingElse() {
        unchangedBy(EdgesOfFormulasTest::fullWithoutTape, keeper -> due("a seventh", read(keeper, "9"), -4));
    }

    private static SpanKeeper busyWithoutTape() {
        SpanKeeper keeper = busy();
        keeper.formula();
        return keeper;
    }

    private static SpanKeeper fullWithoutTape() {
        SpanKeeper keeper = full();
        keeper.formula();
        return keeper;
    }

    /** "as they come": a number that was dropped comes again */
    void promise5NumbersGoOnBehindTheLast() {
        SpanKeeper keeper = with("a", "b", "c");
        keeper.drop();
        keeper.drop();
        due("another one", read(keeper, "d"), 1);
        due("parts(1, 3)", keeper.parts(1, 3), 8);
        due("and one more", read(keeper, "e"), 2);
    }

    /** "60 bytes at most", "at most 6": the longest and the deepest text tells a formula */
    void promise5LongestText() {
        due("parts in six (", with("((((((a-a-a-a-a-a-a-a-a-a-a-a-a-a-a-a-a-a-a-a-a-a-a-a))))))").parts(0, 0), 47);
        String most = "9*9*9*9*9*9*9*9*9*9*9*9*9*9*9*9*9*9*9*9*9*9*9*9*9*9*9*9*9*9";
        due("parts of 60 bytes", with("-" + most).parts(0, 0), 60);
    }

    // ==== promise 6: drop

    /** "STATE: there is none." */
    void promise6NoneIsState() {
        SpanKeeper keeper = with("a");
        due("drop()", keeper.drop(), 0);
        due("drop()", keeper.drop(), -3);
        due("drop()", keeper.drop(), -3);
        due("count(0)", keeper.count(0), 0);
    }

    /** "The last FORMULA is no more: how many there are." */
    void promise6LastIsNoMore() {
        SpanKeeper keeper = with("1", "2", "3", "4", "5", "6");
        for (int left = 5; left >= 0; left--) {
            due("drop()", keeper.drop(), left);
            due("the dropped", keeper.exact(left), NO);
            due("the one ahead of it", keeper.exact(left - 1), left == 0 ? NO : left);
        }
    }

    /** "What is answered so changes nothing" */
    void promise6StateChangesNothing() {
        unchangedBy(EdgesOfFormulasTest::busyWithoutFormulas, keeper -> due("drop()", keeper.drop(), -3));
    }

    private static SpanKeeper busyWithoutFormulas() {
        SpanKeeper keeper = busy();
        for (int left = 4; left > 0; left--) {
            keeper.drop();
        }
        return keeper;
    }

    /** Six, one dropped: there is room for one, and no more. */
    void promise6DropMakesRoomForOne() {
        SpanKeeper keeper = with("a", "b", "c", "d", "e", "f");
        due("drop()", keeper.drop(), 5);
        due("a sixth", read(keeper, "7"), 5);
        due("a seventh", read(keeper, "8"), -4);
        due("exact(5)", keeper.exact(5), 7);
    }

    // ==== promise 7: parts

    /** "letters, numbers": one PART each, also one of four figures */
    void promise7LetterOrNumberIsOnePart() {
        partsAre("f", 1, 1, 1, 32, 0);
        partsAre("9999", 1, 1, 1, 0, 0);
    }

    private void partsAre(String text, int... answers) {
        SpanKeeper keeper = with(text);
        for (int what = 0; what < answers.length; what++) {
            due("parts of " + text + ", " + what, keeper.parts(0, what), answers[what]);
        }
    }

    /** "( ) make none" */
    void promise7ParenthesesMakeNone() {
        partsAre("((((((a))))))", 1, 1, 1, 1, 0);
        partsAre("((a)+((b)))", 3, 3, 1, 3, 1);
    }

    /** "of T's on end the first two are one PART, this and the next one are one, and so on" */
    void promise7SumsAreMadeFromTheFirstOn() {
        partsAre("a-b-c-d", 7, 7, 1, 15, 3);
        // a-b is there twice, as c is not ahead of it
        partsAre("a-b-(a-b)", 7, 4, 2, 3, 2);
        partsAre("c+a-b-(a-b)", 9, 7, 2, 7, 3);
    }

    /** "F's likewise" */
    void promise7ProductsAreMadeFromTheFirstOn() {
        partsAre("a*b*c*d", 7, 7, 1, 15, 3);
        partsAre("a*b*(a*b)", 7, 4, 2, 3, 2);
        partsAre("c*a*b*(a*b)", 9, 7, 2, 7, 3);
    }

    /** "as often as they stand there" */
    void promise7PartsAreCountedAsOftenAsTheyStand() {
        partsAre("a+a", 3, 2, 2, 1, 1);
        partsAre("a*a*a", 5, 3, 3, 1, 2);
    }

    /** "Unlike PARTS are classes of ALIKE ones." */
    void promise7UnlikeAreClasses() {
        partsAre("7+07+007+0007", 7, 4, 4, 0, 3);
        partsAre("-a+-a", 5, 3, 2, 1, 2);
    }

    /** "how many of them are ALIKE at most": 1, if none is like another */
    void promise7AlikeAtMostIs1IfAllAreUnlike() {
        partsAre("a+b*c-4", 7, 7, 1, 7, 3);
        partsAre("------a", 7, 7, 1, 1, 6);
    }

    /** "how many of them are ALIKE at most": parts that are made, too */
    void promise7AlikeAtMostOfMadeOnes() {
        partsAre("(a+1)*(a+1)*(a+1)", 11, 5, 3, 1, 3);
        partsAre("-1*-1*2", 7, 5, 2, 0, 3);
    }

    /** "SOURCES in it (bits)": none to all six */
    void promise7SourcesAreBits() {
        partsAre("1+2", 3, 3, 1, 0, 1);
        partsAre("a+b+c+d+e+f", 11, 11, 1, 63, 5);
        partsAre("f*0", 3, 3, 1, 32, 1);
        partsAre("e-a", 3, 3, 1, 17, 1);
    }

    /** "DEPTH: 0 of a letter, a number; else 1 more than that of the deeper one." */
    void promise7DepthIs1MoreThanTheDeeperOne() {
        partsAre("-7", 2, 2, 1, 0, 1);
        partsAre("a+(b+(c+d))", 7, 7, 1, 15, 3);
        partsAre("((a+b)+c)+d", 7, 7, 1, 15, 3);
        partsAre("--a*b", 5, 5, 1, 3, 3);
        partsAre("a*--b", 5, 5, 1, 3, 3);
        partsAre("-(a+b)", 4, 4, 1, 3, 2);
    }

    /** The most parts, the deepest of them: 60 bytes of the tape. */
    void promise7MostParts() {
        String most = "a+a+a+a+a+a+a+a+a+a+a+a+a+a+a+a+a+a+a+a+a+a+a+a+a+a+a+a+a+a";
        partsAre(most, 59, 30, 30, 1, 29);
        partsAre("-" + most, 60, 31, 30, 1, 30);
    }

    /** "what 0 .. 4"; "NONE." */
    void promise7WhatsFrom0To4() {
        SpanKeeper keeper = with("a");
        due("parts(0, 0)", keeper.parts(0, 0), 1);
        due("parts(0, 4)", keeper.parts(0, 4), 0);
        for (int what : new int[] {-1, 5, Integer.MIN_VALUE, Integer.MAX_VALUE}) {
            due("parts(0, " + what + ")", keeper.parts(0, what), -1);
        }
    }

    /** "NONE": no such FORMULA */
    void promise7NoSuchFormulaIsNone() {
        SpanKeeper keeper = with("a", "b");
        keeper.drop();
        for (int formula : new int[] {-1, 1, 6, Integer.MIN_VALUE, Integer.MAX_VALUE}) {
            due("parts(" + formula + ", 0)", keeper.parts(formula, 0), -1);
        }
    }

    /** "what is asked changes nothing": what a formula is made of stays, whatever its sources do */
    void promise7AskedChangesNothing() {
        unchangedBy(keeper -> {
            for (int what = -1; what < 6; what++) {
                keeper.parts(what, what);
                keeper.parts(3, what);
            }
            due("parts(3, 0)", keeper.parts(3, 0), 11);
        });
    }

    // ==== promise 8: alike

    private void alikeIs(String one, String other, int alike) {
        SpanKeeper keeper = with(one, other);
        due(one + " alike " + other, keeper.alike(0, 1), alike);
        due(other + " alike " + one, keeper.alike(1, 0), alike);
    }

    /** "the same letter": likeness is not of what they stand at */
    void promise8SameLetter() {
        alikeIs("a", "a", 1);
        alikeIs("a", "(a)", 1);
        alikeIs("a", "b", 0);
        alikeIs("e", "f", 0);
    }

    /** "numbers of like worth" */
    void promise8NumbersOfLikeWorth() {
        alikeIs("7", "0007", 1);
        alikeIs("0", "0000", 1);
        alikeIs("9999", "9998", 0);
        alikeIs("1", "10", 0);
    }

    /** A letter is no number, also where they are worth the same. */
    void promise8LetterIsNoNumber() {
        alikeIs("a", "0", 0);
        alikeIs("b", "1", 0);
        alikeIs("a+1", "1+a", 0);
    }

    /** "both -F, sums, differences, products": not one this, the other that */
    void promise8MadeInTheSameWay() {
        alikeIs("a+b", "a+b", 1);
        alikeIs("a-b", "a-b", 1);
        alikeIs("a*b", "a*b", 1);
        alikeIs("-a", "-a", 1);
        alikeIs("a+b", "a-b", 0);
        alikeIs("a+b", "a*b", 0);
        alikeIs("a-b", "a*b", 0);
        alikeIs("-a", "a", 0);
        alikeIs("-a", "0-a", 0);
        alikeIs("--a", "a", 0);
        alikeIs("-0", "0", 0);
        alikeIs("a+-b", "a-b", 0);
    }

    /** "whose first ones are ALIKE, and second ones, too": in their order */
    void promise8FirstAndSecondInTheirOrder() {
        alikeIs("a+b", "b+a", 0);
        alikeIs("a*b", "b*a", 0);
        alikeIs("a+b", "a+c", 0);
        alikeIs("a+b", "c+b", 0);
        alikeIs("(a-1)*(b-2)", "(a-01)*(b-002)", 1);
        alikeIs("(a-1)*(b-2)", "(a-1)*(b-3)", 0);
    }

    /** "the first two are one PART": ( ) there change nothing, elsewhere they do */
    void promise8AsTheyAreMade() {
        alikeIs("a+b+c", "(a+b)+c", 1);
        alikeIs("a+b+c", "a+(b+c)", 0);
        alikeIs("a*b*c", "(a*b)*c", 1);
        alikeIs("a*b*c", "a*(b*c)", 0);
        alikeIs("-a*b", "(-a)*b", 1);
        alikeIs("-a*b", "-(a*b)", 0);
        alikeIs("-a+b", "-(a+b)", 0);
        alikeIs("a+b*c", "(a+b)*c", 0);
        alikeIs("-a-b", "-(a-b)", 0);
    }

    /** A FORMULA is ALIKE itself. */
    void promise8ItselfIsAlike() {
        SpanKeeper keeper = with("-(a*b)-7", TOO_GREAT);
        due("alike(0, 0)", keeper.alike(0, 0), 1);
        due("alike(1, 1), which is over", keeper.alike(1, 1), 1);
        due("alike(0, 1)", keeper.alike(0, 1), 0);
    }

    /** "NONE": the one, the other, both */
    void promise8NoSuchFormulaIsNone() {
        SpanKeeper keeper = with("a", "b");
        keeper.drop();
        due("alike(0, 1)", keeper.alike(0, 1), -1);
        due("alike(1, 0)", keeper.alike(1, 0), -1);
        due("alike(-1, 0)", keeper.alike(-1, 0), -1);
        due("alike(0, -1)", keeper.alike(0, -1), -1);
        due("alike(1, 1)", keeper.alike(1, 1), -1);
        due("alike(6, 6)", keeper.alike(6, 6), -1);
        due("alike of int's ends", keeper.alike(Integer.MIN_VALUE, Integer.MAX_VALUE), -1);
    }

    /** "what is asked changes nothing" */
    void promise8AskedChangesNothing() {
        unchangedBy(keeper -> {
            for (int one = -1; one < 6; one++) {
                keeper.alike(one, 3);
                keeper.alike(3, one);
            }
            due("alike(3, 3)", keeper.alike(3, 3), 1);
        });
    }
}
