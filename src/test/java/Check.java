import java.util.function.Supplier;
import java.util.function.ToLongFunction;

/** Counts answers that are as due and tells those that are not. */
final class Check {
    private int passed = 0;
    private int failed = 0;

    void due(String call, long got, long want) {
        if (got == want) {
            passed++;
            return;
        }
        failed++;
        System.out.println(call + " answered " + got + ", due is " + want);
    }

    /** A call that is refused with due: it is counted once, and nothing else has changed. */
    void refused(String call, Supplier<RefusedLast> made, int due, ToLongFunction<RefusedLast> asked) {
        answered(call, made, due, due, asked);
    }

    /** A call that only tells: nothing has changed, and nothing is refused. */
    void tells(String call, Supplier<RefusedLast> made, long due, ToLongFunction<RefusedLast> asked) {
        answered(call, made, due, 0, asked);
    }

    /** The object that was asked is compared with a twin that was not, so that neither sees too many calls. */
    private void answered(String call, Supplier<RefusedLast> made, long due, int refusal, ToLongFunction<RefusedLast> asked) {
        RefusedLast x = made.get();
        RefusedLast twin = made.get();
        due(call, asked.applyAsLong(x), due);
        for (int what = 12; what <= 16; what++) {
            due(call + ", then refusals " + (10 - what), x.status(what) - twin.status(what), what == 10 - refusal ? 1 : 0);
        }
        due(call + ", then the state is the same", state(x).equals(state(twin)) ? 1 : 0, 1);
    }

    /** All that can be asked of an object without changing it, but how many calls it refused. */
    static String state(RefusedLast x) {
        StringBuilder b = new StringBuilder();
        for (int what = 0; what <= 8; what++) {
            b.append(x.status(what)).append(' ');
        }
        for (int g = 0; g < x.status(0); g++) {
            for (int what = 0; what < 6; what++) {
                b.append(x.gateOf(g, what)).append(' ');
            }
        }
        for (int k = 0; k < x.status(1); k++) {
            b.append(x.cartOf(k, 0)).append(' ').append(x.cartOf(k, 1)).append(' ');
        }
        for (int s = 0; s < 8; s++) {
            int holds = x.holds(s);
            b.append("; ").append(holds);
            for (int i = 0; i < 40 && holds >= 0 && holds <= 4; i++) {
                b.append(' ').append(x.element(s, i));
            }
        }
        return b.toString();
    }

    static void feed(RefusedLast x, String text) {
        for (int i = 0; i < text.length(); i++) {
            x.feed(text.charAt(i));
        }
    }

    /** Feeds a text and reads it as a YARD. */
    static int read(RefusedLast x, String text) {
        feed(x, text);
        return x.yard();
    }

    /** A new object with the yard of a text that is right; made by calls, THE TAPE has no part in it. */
    static RefusedLast yard(String text) {
        RefusedLast x = new RefusedLast();
        for (String statement : text.split(";")) {
            make(x, statement.trim().split(" +"));
        }
        return x;
    }

    private static void make(RefusedLast x, String[] words) {
        int first = Integer.parseInt(words[1]);
        int second = words.length > 2 && !words[2].equals("at") ? Integer.parseInt(words[2]) : -1;
        int made;
        switch (words[0]) {
            case "colours":
                made = x.colours(first);
                break;
            case "gate":
                made = x.gate(first, second);
                if (words.length > 4) {
                    x.tell(made, Integer.parseInt(words[4]), words.length > 6 ? Integer.parseInt(words[6]) : -1);
                }
                break;
            case "cart":
                made = x.cart(first);
                if (words.length > 3) {
                    x.place(made, Integer.parseInt(words[3]));
                }
                break;
            case "share":
                made = x.share(first, second);
                break;
            default:
                made = -1;
        }
        if (made < 0 || x.status(12) > 0) {
            throw new IllegalStateException("no yard: " + String.join(" ", words));
        }
    }

    /** Puts a ROW of longs into a SHELF. */
    static void fill(RefusedLast x, int s, long... values) {
        x.row(s, 3, values.length);
        for (int i = 0; i < values.length; i++) {
            x.set(s, i, values[i]);
        }
    }

    void end() {
        System.out.println(passed + " answers as due, " + failed + " not");
        if (failed != 0) {
            System.exit(1);
        }
    }
}
