/** Counts answers that are as due and tells those that are not. */
final class Check {
    private int passed = 0;
    private int failed = 0;

    void due(String call, long got, long want) {
        if (got == want) {
            passed++;
            return;
        }
        failed++;
        System.out.println(call + " answered " + got + ", due is " + want);
    }

    /** Feeds a text and reads it as a YARD. */
    static int read(RefusedLast x, String text) {
        for (int i = 0; i < text.length(); i++) {
            x.feed(text.charAt(i));
        }
        return x.yard();
    }

    /** A new object with the yard of a text. */
    static RefusedLast yard(String text) {
        RefusedLast x = new RefusedLast();
        if (read(x, text) < 0) {
            throw new IllegalStateException("no yard: " + text);
        }
        return x;
    }

    /** Puts a ROW of longs into a SHELF. */
    static void fill(RefusedLast x, int s, long... values) {
        x.row(s, 3, values.length);
        for (int i = 0; i < values.length; i++) {
            x.set(s, i, values[i]);
        }
    }

    void end() {
        System.out.println(passed + " answers as due, " + failed + " not");
        if (failed != 0) {
            System.exit(1);
        }
    }
}
