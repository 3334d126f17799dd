import java.util.HashMap;
import java.util.Map;

/**
 * Promise 5 by its own words: "FAULT: the place (from 0) of the first byte with which no FORMULA
 * goes on". Every text of a few bytes is fed; what is due is no reader's place, but a search for a
 * text that begins so and is an E.
 */
public final class EveryShortTextTest {
    private static final int MOST_OPEN = 6;
    private static final int CALLS = 512;
    private static final Expect EXPECT = new Expect("EveryShortTextTest");

    private static final Map<String, Integer> SUMS = new HashMap<>();
    private static final Map<String, Integer> PRODUCTS = new HashMap<>();
    private static final Map<String, Integer> FACTORS = new HashMap<>();
    private static final Map<String, Boolean> BEGINNINGS = new HashMap<>();

    private static SpanKeeper keeper = new SpanKeeper();
    private static int calls = 0;

    public static void main(String[] args) {
        everyTextOf("a1+-*()g ", 5);
        everyTextOf("(-a)", 8);
        everyTextOf("0+9", 7);
        everyEndingOf("------", "a1+-*()", 3);
        everyEndingOf("((((((", "a1+-*()", 3);
        everyEndingOf("-(-(-(", "a1+-*()", 3);
        everyEndingOf("(((((-a)))))", "a1+-*()", 3);
        everyEndingOf("-(((((a*-", "a1+-*()", 3);
        EXPECT.finish();
    }

    private static void everyTextOf(String bytes, int most) {
        everyEndingOf("", bytes, most);
    }

    private static void everyEndingOf(String text, String bytes, int most) {
        held(text);
        for (int i = 0; i < bytes.length() && most > 0; i++) {
            everyEndingOf(text + bytes.charAt(i), bytes, most - 1);
        }
    }

    private static void held(String text) {
        calls += text.length() + 2;
        if (calls > CALLS) {
            keeper = new SpanKeeper();
            calls = text.length() + 2;
        }
        for (int i = 0; i < text.length(); i++) {
            keeper.feed(text.charAt(i));
        }
        int want = isFormula(text) ? 0 : -100 - faultOf(text);
        EXPECT.due("formula() of " + text, keeper.formula(), want);
        if (want == 0) {
            keeper.drop();
        }
    }

    private static int faultOf(String text) {
        int good = 0;
        while (good < text.length() && isBeginning(text.substring(0, good + 1))) {
            good++;
        }
        return good;
    }

    /** If any FORMULA begins so, one does that ends as soon as it can: an F, if one is due, and what closes. */
    private static boolean isBeginning(String text) {
        Boolean known = BEGINNINGS.get(text);
        if (known == null) {
            known = false;
            String closing = "";
            for (int closed = 0; closed <= MOST_OPEN; closed++) {
                known |= isFormula(text + closing) || isFormula(text + "a" + closing);
                closing += ")";
            }
            BEGINNINGS.put(text, known);
        }
        return known;
    }

    private static boolean isFormula(String text) {
        return mostOpenInSum(text) <= MOST_OPEN;
    }

    // How many of ( and of - ahead of an F are open at once, at most; more than any, if the text is none.

    private static final int NONE_SUCH = 1000;

    private static int mostOpenInSum(String text) {
        Integer known = SUMS.get(text);
        if (known == null) {
            known = mostOpenInProduct(text);
            for (int i = 1; i < text.length(); i++) {
                if (text.charAt(i) == '+' || text.charAt(i) == '-') {
                    known = Math.min(known, Math.max(mostOpenInSum(text.substring(0, i)),
                        mostOpenInProduct(text.substring(i + 1))));
                }
            }
            SUMS.put(text, known);
        }
        return known;
    }

    private static int mostOpenInProduct(String text) {
        Integer known = PRODUCTS.get(text);
        if (known == null) {
            known = mostOpenInFactor(text);
            for (int i = 1; i < text.length(); i++) {
                if (text.charAt(i) == '*') {
                    known = Math.min(known, Math.max(mostOpenInProduct(text.substring(0, i)),
                        mostOpenInFactor(text.substring(i + 1))));
                }
            }
            PRODUCTS.put(text, known);
        }
        return known;
    }

    private static int mostOpenInFactor(String text) {
        if (text.matches("[a-f]|[0-9]{1,4}")) {
            return 0;
        }
        Integer known = FACTORS.get(text);
        if (known == null) {
            known = NONE_SUCH;
            if (text.startsWith("-")) {
                known = 1 + mostOpenInFactor(text.substring(1));
            } else if (text.length() > 2 && text.startsWith("(") && text.endsWith(")")) {
                known = 1 + mostOpenInSum(text.substring(1, text.length() - 1));
            }
            FACTORS.put(text, known);
        }
        return known;
    }
}
