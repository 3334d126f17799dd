import java.lang.reflect.InvocationTargetException;
import java.lang.reflect.Method;
import java.util.Arrays;
import java.util.Comparator;
import java.util.function.Consumer;
import java.util.function.Supplier;

/**
 * What the tests of edges share. Each edge that a sentence of the document names has a method of
 * its own, named after its promise (promise9..), run on an object of its own; the sentence stands
 * above it.
 */
abstract class Edges {
    static final long NO = Long.MIN_VALUE;
    static final long OVER = Long.MIN_VALUE + 1;
    static final int[] BOTH = {0, 1};
    static final int[] ALL_ENDS = {0, 1, 2};

    /** 2 to the 62nd; both ends of a long; a product that is no long. */
    static final String TWO62 = "8192*8192*8192*8192*1024";
    static final long TWO62_WORTH = 1L << 62;
    static final String LEAST = "-8192*8192*8192*8192*2048";
    static final String GREATEST = TWO62 + "+(" + TWO62 + "-1)";
    static final String TOO_GREAT = "9999*9999*9999*9999*9999";

    private String test = "";
    private int held = 0;
    private int wrong = 0;

    static void goThrough(Supplier<Edges> maker, int firstPromise, int lastPromise) {
        String name = maker.get().getClass().getSimpleName();
        Method[] methods = maker.get().getClass().getDeclaredMethods();
        Arrays.sort(methods, Comparator.comparing(Method::getName));
        int[] tests = new int[30];
        int held = 0;
        int wrong = 0;
        for (Method method : methods) {
            int promise = promiseOf(method.getName());
            if (promise > 0) {
                Edges edge = maker.get();
                edge.test = name + " " + method.getName();
                edge.run(method);
                tests[promise]++;
                held += edge.held;
                wrong += edge.wrong;
            }
        }
        for (int promise = firstPromise; promise <= lastPromise; promise++) {
            if (tests[promise] == 0) {
                wrong++;
                System.out.println(name + ": promise " + promise + " has no test of an edge");
            }
        }
        System.out.println(name + ": " + Arrays.stream(tests).sum() + " edges, " + held + " answers held, "
            + wrong + " wrong");
        if (wrong != 0) {
            System.exit(1);
        }
    }

    /** 0: no test. */
    private static int promiseOf(String method) {
        String number = method.replaceAll("^promise(\\d+)\\D.*|.*", "$1");
        return number.isEmpty() ? 0 : Integer.parseInt(number);
    }

    private void run(Method method) {
        try {
            method.invoke(this);
        } catch (InvocationTargetException thrown) {
            wrong++;
            System.out.println(test + ": threw " + thrown.getCause());
        } catch (IllegalAccessException closed) {
            wrong++;
            System.out.println(test + ": can't be called");
        }
        if (held == 0) {
            wrong++;
            System.out.println(test + ": held no answer");
        }
    }

    // ---- what tests say

    final void due(String call, long got, long want) {
        held++;
        if (got != want) {
            wrong++;
            System.out.println(test + ": " + call + " answered " + got + ", due is " + want);
        }
    }

    /** A keeper with the formulas of the texts, numbered as they come. */
    final SpanKeeper with(String... texts) {
        SpanKeeper keeper = new SpanKeeper();
        for (int i = 0; i < texts.length; i++) {
            due("formula " + texts[i], read(keeper, texts[i]), i);
        }
        return keeper;
    }

    static void feed(SpanKeeper keeper, String text) {
        for (int i = 0; i < text.length(); i++) {
            keeper.feed(text.charAt(i));
        }
    }

    static int read(SpanKeeper keeper, String text) {
        feed(keeper, text);
        return keeper.formula();
    }

    static void stand(SpanKeeper keeper, int source, int value, int span) {
        keeper.set(source, 0, value);
        keeper.set(source, 1, span);
    }

    final void wayIs(SpanKeeper keeper, int... places) {
        due("way(-1)", keeper.way(-1), places.length);
        for (int k = 0; k < places.length; k++) {
            due("way(" + k + ")", keeper.way(k), places[k]);
        }
        due("way behind its last place", keeper.way(places.length), -1);
    }

    final void spanIs(SpanKeeper keeper, int formula, long low, long high, long width) {
        due("low of " + formula, keeper.span(formula, 0), low);
        due("high of " + formula, keeper.span(formula, 1), high);
        due("width of " + formula, keeper.span(formula, 2), width);
    }

    // ---- what calls leave as it is

    /** Two like keepers, one of which has the calls: all that can be asked of both must be alike. */
    final void unchangedBy(Supplier<SpanKeeper> made, Consumer<SpanKeeper> calls) {
        SpanKeeper called = made.get();
        calls.accept(called);
        String got = allOf(called);
        String want = allOf(made.get());
        due("all that can be asked, " + got + " for " + want + ",", got.equals(want) ? 1 : 0, 1);
    }

    final void unchangedBy(Consumer<SpanKeeper> calls) {
        unchangedBy(Edges::busy, calls);
    }

    /** A bit of everything: formula 3 is over, of 2 the width alone; the image is another one. */
    static SpanKeeper busy() {
        SpanKeeper keeper = new SpanKeeper();
        for (int source = 0; source < 6; source++) {
            stand(keeper, source, 3 * source - 4, source % 4);
            keeper.set(source, 2, 5 * source + 1);
        }
        stand(keeper, 4, 0, 1);
        read(keeper, "a*b-c");
        read(keeper, "d*d-2*d");
        keeper.plan(1, 1, 9);
        keeper.image();
        read(keeper, "e*" + TWO62);
        read(keeper, "f-" + TOO_GREAT);
        keeper.plan(3, 0, -7);
        keeper.plan(3, 2, 1);
        keeper.list(0, 3);
        keeper.put(0, 2, -8);
        keeper.list(1, 0);
        keeper.span(3, 0);
        feed(keeper, "a+b");
        return keeper;
    }

    /** Of busy all that is full: six formulas, 60 bytes, eight rows. */
    static SpanKeeper full() {
        SpanKeeper keeper = busy();
        keeper.formula();
        read(keeper, "a");
        while (keeper.plan(2, 0, keeper.count(2)) > 0) {
            keeper.set(5, 2, keeper.count(2));
        }
        while (keeper.feed('-') > 0) {
            keeper.feed('a');
        }
        return keeper;
    }

    /** Asks for all that a keeper holds, the tape, the plan and the image at the end. */
    static String allOf(SpanKeeper keeper) {
        StringBuilder all = new StringBuilder();
        all.append(keeper.way(-1));
        for (int k = 0; k < keeper.way(-1); k++) {
            all.append(' ').append(keeper.way(k));
        }
        for (int list = 0; list < 4; list++) {
            all.append('|').append(keeper.judge(list));
            for (int i = 0; i < 8; i++) {
                all.append(' ').append(keeper.get(list, i));
            }
        }
        putState(keeper, all);
        int read = keeper.formula();
        all.append("|tape ").append(read).append(' ').append(keeper.span(read, 0));
        all.append("|undo ").append(keeper.undo());
        putState(keeper, all);
        return all.toString();
    }

    private static void putState(SpanKeeper keeper, StringBuilder all) {
        for (int source = 0; source < 6; source++) {
            for (int what = 0; what < 3; what++) {
                all.append(' ').append(keeper.of(source, what));
            }
        }
        all.append("|counts");
        for (int what = 0; what < 5; what++) {
            all.append(' ').append(keeper.count(what));
        }
        for (int formula = 0; formula < keeper.count(0); formula++) {
            all.append("|f ").append(keeper.parts(formula, 0)).append(' ').append(keeper.parts(formula, 3));
            all.append(' ').append(keeper.exact(formula)).append(' ').append(keeper.ends(formula));
        }
    }
}
