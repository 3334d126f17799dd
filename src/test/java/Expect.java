/** What the tests share: answers held against those that are due, texts fed and read. */
final class Expect {
    private final String test;
    private int held = 0;
    private int wrong = 0;

    Expect(String test) {
        this.test = test;
    }

    void due(String call, long got, long want) {
        held++;
        if (got != want) {
            wrong++;
            System.out.println(test + ": " + call + " answered " + got + ", due is " + want);
        }
    }

    void holds(String what, boolean so) {
        due(what, so ? 1 : 0, 1);
    }

    void finish() {
        System.out.println(test + ": " + held + " answers held, " + wrong + " wrong");
        if (wrong != 0 || held == 0) {
            System.exit(1);
        }
    }

    /** Feeds a text, which must fit on the tape, and has it read. */
    int read(SpanKeeper keeper, String text) {
        for (int i = 0; i < text.length(); i++) {
            due("feed of " + text, keeper.feed(text.charAt(i)), i + 1);
        }
        return keeper.formula();
    }

    static void stand(SpanKeeper keeper, int source, int value, int span) {
        keeper.set(source, 0, value);
        keeper.set(source, 1, span);
    }
}
