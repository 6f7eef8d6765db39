import java.util.function.Supplier;
import java.util.function.ToLongFunction;

/**
 * Promises 24 to 43 at their edges: what is refused, with which number, in which order and with nothing changed by
 * it; that nothing comes of what is only thought; NONE and never; the most and the fewest of everything.
 */
public final class ThoughtEdgesTest {
    private static final int MIN = Integer.MIN_VALUE;
    private static final int MAX = Integer.MAX_VALUE;
    private static final int[] NO_SHELVES = {-1, 8, MIN, MAX};
    private static final int[] NO_GATES = {-1, 3, 6, MIN, MAX};
    private static final int[] NO_COLOURS = {-1, 3, MIN, MAX};
    private static final Check check = new Check();

    interface Asked {
        long of(RefusedLast x, int v);
    }

    /** A call about the first n elements of a ROW. */
    interface AskedOfRow {
        long of(RefusedLast x, int s, int n);
    }

    public static void main(String[] args) {
        mornings();
        longestMorning();
        cartsOfMornings();
        stuckByMornings();
        tooManyForOut();
        neverOut();
        waysEnd();
        foes();
        setsAndKnow();
        locks();
        rowsOfColours();
        longestRows();
        drives();
        seedsWrap();
        images();
        shelvesBehindBack();
        check.end();
    }

    /** 3 GATES, 3 CARTS; SHELF 0 has longs, 1 a GATE, 2 NOTHING, 7 none of longs. */
    private static RefusedLast some() {
        RefusedLast x = Check.yard("gate 1 0 knows 1; gate 2 7 knows 2 knows 0; gate 5 1; cart 0; cart 2 at 1; cart 1 at 3");
        Check.fill(x, 0, 0, 1, 2, 2, 3, -1);
        x.show(1, 1);
        x.row(7, 3, 0);
        x.tries(0);
        return x;
    }

    private static void bad(String call, ToLongFunction<RefusedLast> asked) {
        check.refused(call, ThoughtEdgesTest::some, -2, asked);
    }

    private static void badEach(String call, int[] values, Asked asked) {
        for (int v : values) {
            bad(call + " " + v, x -> asked.of(x, v));
        }
    }

    private static void tells(String call, long due, ToLongFunction<RefusedLast> asked) {
        check.tells(call, ThoughtEdgesTest::some, due, asked);
    }

    private static void mornings() {
        morningRefused("24: judge", RefusedLast::judge);
        morningRefused("25: morning", RefusedLast::morning);
        morningRefused("26: behind", (x, s, n) -> x.behind(s, n, 0));
        morningRefused("27: stuck", RefusedLast::stuck);
        badEach("26: no cart", new int[] {-1, 3, 6, MIN, MAX}, (x, v) -> x.behind(0, 0, v));
        bad("26: no cart, ahead of OTHER", x -> x.behind(1, 0, 3));
        bad("26: no cart, ahead of NOTHING", x -> x.behind(2, 0, 3));
        bad("26: no cart, ahead of WRONG", x -> x.behind(0, 1, 3));
        check.refused("25: WRONG", ThoughtEdgesTest::some, -5, x -> x.morning(0, 1));
        check.refused("26: WRONG", ThoughtEdgesTest::some, -5, x -> x.behind(0, 1, 0));
        check.refused("25: fewer elements, ahead of WRONG", ThoughtEdgesTest::some, -2, x -> x.morning(0, 7));
        check.refused("26: fewer elements, ahead of WRONG", ThoughtEdgesTest::some, -2, x -> x.behind(0, 7, 0));
        tells("24: the first is wrong", 0, x -> x.judge(0, 6));
        tells("24: none told", -1, x -> x.judge(0, 0));
        tells("24: none of none", -1, x -> x.judge(7, 0));
        tells("25: none told", 0, x -> x.morning(0, 0));
        tells("26: none told", 1, x -> x.behind(0, 0, 1));
        tells("27: none told", 7, x -> x.stuck(0, 0));
        tells("27: if the first were stuck, but 1 comes then", 0, x -> x.stuck(0, 6));
    }

    private static void morningRefused(String call, AskedOfRow asked) {
        badEach(call + ", no shelf", NO_SHELVES, (x, v) -> asked.of(x, v, 0));
        badEach(call + ", n", new int[] {-1, 41, MIN, MAX}, (x, v) -> asked.of(x, 0, v));
        badEach(call + ", n, ahead of OTHER", new int[] {-1, 41}, (x, v) -> asked.of(x, 1, v));
        badEach(call + ", n, ahead of NOTHING", new int[] {-1, 41}, (x, v) -> asked.of(x, 2, v));
        badEach(call + ", fewer elements", new int[] {7, 40}, (x, v) -> asked.of(x, 0, v));
        bad(call + ", fewer than one", x -> asked.of(x, 7, 1));
        for (int n = 0; n <= 40; n += 40) {
            int most = n;
            check.refused(call + ", a gate, " + n, ThoughtEdgesTest::some, -3, x -> asked.of(x, 1, most));
            check.refused(call + ", nothing, " + n, ThoughtEdgesTest::some, -4, x -> asked.of(x, 2, most));
        }
    }

    private static void longestMorning() {
        Supplier<RefusedLast> forty = () -> {
            RefusedLast x = Check.yard("gate 5 0; gate 5 1; cart 0; cart 1 at 1");
            x.row(0, 0, 40);
            x.set(0, 39, 3);
            return x;
        };
        check.tells("24: 40 right ones", forty, -1, x -> x.judge(0, 40));
        check.tells("26: behind 39", forty, 1, x -> x.behind(0, 39, 1));
        check.tells("26: behind 40", forty, 2, x -> x.behind(0, 40, 1));
        check.tells("27: the first gate alone", forty, 1, x -> x.stuck(0, 40));
        check.tells("27: of 39 both", forty, 3, x -> x.stuck(0, 39));
        RefusedLast x = forty.get();
        check.due("25: 39 refusals", x.morning(0, 40), 39);
        check.due("44: 40 tries", x.status(4), 40);
        check.due("44: 39 scratches", x.status(5), 39);
        check.due("44: one is out", x.status(3), 2);
        check.due("24: now the last is wrong", x.judge(0, 40), 39);
        check.due("25: so it can't be", x.morning(0, 40), -5);
        check.due("25: but the first 39", x.morning(0, 39), 39);
        check.due("44: 78 scratches", x.status(5), 78);
    }

    /** The first and the last CART there is, and such as there isn't. */
    private static void cartsOfMornings() {
        for (int carts = 1; carts <= 6; carts++) {
            String text = "gate 5 1" + "; cart 0".repeat(carts);
            long last = 2L * (carts - 1);
            judged("the last let in, of " + carts, text, last + 1, -1);
            judged("the last refused, of " + carts, text, last, 0);
            judged("one more, of " + carts, text, last + 2, 0);
            judged("one more let in, of " + carts, text, last + 3, 0);
            judged("the first let in, of " + carts, text, 1, -1);
        }
        long[] none = {-1, -2, -3, Long.MIN_VALUE, Long.MIN_VALUE + 1, Long.MAX_VALUE, (1L << 32) + 1, (1L << 33) + 1, 1L << 32};
        for (long told : none) {
            judged("no cart", "gate 5 1; cart 0", told, 0);
        }
        judged("no carts", "gate 5 1", 1, 0);
        judged("no carts, no gates", "colours 3", 0, 0);
        judged("out with no gates", "cart 0", 1, 0);
        judged("out", "gate 5 1; cart 0 at 1", 1, 0);
        RefusedLast x = Check.yard("gate 5 1; cart 0; cart 0");
        Check.fill(x, 0, 1, 3, 3, 99);
        check.due("24: the second is out by then", x.judge(0, 4), 2);
        check.due("24: those behind the first two don't count", x.judge(0, 2), -1);
        check.due("26: nor here", x.behind(0, 2, 1), 1);
        x.row(1, 4, 1);
        x.set(1, 0, -2);
        check.due("24: what is so is 1", x.judge(1, 1), -1);
    }

    private static void judged(String call, String text, long told, int due) {
        Supplier<RefusedLast> made = () -> {
            RefusedLast x = Check.yard(text);
            Check.fill(x, 7, told);
            return x;
        };
        check.tells("24: " + call + ", " + told, made, due, x -> x.judge(7, 1));
        if (due != -1) {
            check.refused("25: " + call + ", " + told, made, -5, x -> x.morning(7, 1));
        }
    }

    private static void stuckByMornings() {
        String six = "gate 5 1; gate 5 3; gate 5 5; gate 5 7; gate 5 9; gate 5 1; cart 0";
        for (int g = 0; g < 6; g++) {
            long[] told = new long[g + 1];
            for (int i = 0; i < g; i++) {
                told[i] = 1;
            }
            Supplier<RefusedLast> made = () -> {
                RefusedLast x = Check.yard(six);
                Check.fill(x, 0, told);
                return x;
            };
            check.tells("27: only gate " + g, made, 1 << g, x -> x.stuck(0, told.length));
            check.tells("27: gate " + g + " or one behind it", made, 63 & -1 << g, x -> x.stuck(0, told.length - 1));
        }
        check.tells("27: no gates", () -> withRow("cart 0"), 0, x -> x.stuck(0, 0));
        check.tells("27: no gates, one told", () -> withRow("cart 0"), 0, x -> x.stuck(0, 1));
        // one that is stuck already would make it right as it is, and so does each that nobody comes to
        check.tells("27: stuck already", () -> withRow("gate 5 8; gate 1 0; cart 0"), 3, x -> x.stuck(0, 1));
    }

    /** SHELF 0 has one element, 0. */
    private static RefusedLast withRow(String text) {
        RefusedLast x = Check.yard(text);
        x.row(0, 3, 1);
        return x;
    }

    private static void tooManyForOut() {
        String[] texts = {"gate 5 1; gate 5 1; gate 5 1; gate 5 1", "gate 5 1; cart 0; cart 0; cart 0; cart 0",
            "gate 5 1; gate 5 1; gate 5 1; gate 5 1; cart 0 at 4; cart 0 at 4; cart 0 at 4; cart 0 at 4"};
        for (String text : texts) {
            Supplier<RefusedLast> made = () -> Check.yard(text);
            check.refused("28: out(0)", made, -5, x -> x.out(0));
            check.refused("28: out(1)", made, -5, x -> x.out(1));
            check.refused("28: BAD ahead of it", made, -2, x -> x.out(2));
            check.refused("29: way(0)", made, -5, x -> x.way(0));
            check.refused("29: BAD ahead of it", made, -2, x -> x.way(-1));
            check.refused("30: foe", made, -5, RefusedLast::foe);
            check.refused("31: harm", made, -5, x -> x.harm(0, 0));
            check.refused("31: BAD ahead of it", made, -2, x -> x.harm(0, 3));
        }
        Supplier<RefusedLast> noGates = () -> Check.yard("cart 0; cart 0; cart 0; cart 0");
        check.refused("28: no gates, 4 carts", noGates, -5, x -> x.out(0));
        check.tells("30: no gates, 4 carts", noGates, -1, RefusedLast::foe);
        check.tells("30: no gates, no carts", RefusedLast::new, -1, RefusedLast::foe);
        check.tells("28: no gates, 3 carts", () -> Check.yard("cart 0; cart 1; cart 2"), 0, x -> x.out(1));
        Supplier<RefusedLast> three = () -> Check.yard("gate 5 1; gate 5 1; gate 5 1; cart 0; cart 0; cart 0");
        check.tells("28: 3 gates, 3 carts", three, 0, x -> x.out(0));
        check.tells("28: nine tries", three, 9, x -> x.out(1));
        check.tells("29: the last", three, 2, x -> x.way(8));
        check.tells("30: of none the first", three, 0, RefusedLast::foe);
        check.tells("31: none", three, 0, x -> x.harm(2, 2));
    }

    private static void neverOut() {
        String[] texts = {"gate 5 0; cart 0", "gate 0 0; cart 0; cart 1", "gate 4 0; cart 1; cart 1", "gate 4 0 knows 2 knows 2; cart 2",
            "gate 5 1; gate 5 1; gate 5 2; cart 0; cart 0 at 3; cart 0 at 3"};
        for (String text : texts) {
            Supplier<RefusedLast> made = () -> Check.yard(text);
            check.refused("28: never, " + text, made, -5, x -> x.out(0));
            check.refused("28: never, " + text, made, -5, x -> x.out(1));
            check.refused("29: never, " + text, made, -5, x -> x.way(0));
            check.refused("31: never, " + text, made, -5, x -> x.harm(0, 0));
            check.refused("28: BAD, " + text, made, -2, x -> x.out(-1));
            check.refused("29: BAD, " + text, made, -2, x -> x.way(MIN));
            check.refused("31: BAD, " + text, made, -2, x -> x.harm(3, 0));
            check.tells("30: never, by the first, " + text, made, 0, RefusedLast::foe);
        }
        check.tells("31: never then", () -> Check.yard("gate 4 0 knows 0; cart 0"), 99, x -> x.harm(0, 0));
    }

    private static void waysEnd() {
        badEach("28: no what", new int[] {-1, 2, MIN, MAX}, RefusedLast::out);
        badEach("29: below 0", new int[] {-1, MIN}, RefusedLast::way);
        // cart 0 is let in thrice, cart 1 twice, cart 2 is out
        tells("28: refusals", 0, x -> x.out(0));
        tells("28: tries", 5, x -> x.out(1));
        int[] way = {0, 0, 0, 1, 1};
        for (int i = 0; i < way.length; i++) {
            int at = i;
            tells("29: way " + i, way[i], x -> x.way(at));
        }
        int[] noSuch = {5, 6, 40, MAX};
        for (int i : noSuch) {
            check.refused("29: no " + i, ThoughtEdgesTest::some, -5, x -> x.way(i));
        }
        check.refused("29: none with no carts", () -> Check.yard("gate 5 1"), -5, x -> x.way(0));
        check.refused("29: none if all are out", () -> Check.yard("gate 5 1; cart 0 at 1"), -5, x -> x.way(0));
        check.tells("28: none if all are out", () -> Check.yard("gate 5 0; cart 0 at 1"), 0, x -> x.out(0));
    }

    private static void foes() {
        badEach("31: no gate", NO_GATES, (x, v) -> x.harm(v, 0));
        badEach("31: no colour", NO_COLOURS, (x, v) -> x.harm(0, v));
        foe("gate 1 0 knows 0; cart 0", 1);
        foe("gate 5 1; gate 1 0 knows 0; cart 0", 11);
        foe("gate 5 1; gate 5 1; gate 1 0 knows 0; cart 0", 21);
        foe("gate 5 1; gate 4 0 knows 2 knows 1; cart 2", 12);
        foe("gate 5 1; gate 1 0 knows 2; gate 4 0 knows 2 knows 1; cart 2", 22);
        foe("gate 1 0 knows 2; gate 1 0 knows 2; cart 2", 0);
        // each try helps; the first must be made all the same
        foe("colours 2; gate 1 0; cart 0; cart 1", 0);
        foe("gate 1 0; gate 1 0; gate 1 0; cart 0; cart 1; cart 2", 0);
        foe("gate 1 0 knows 2; gate 5 0; cart 2 at 2", 0);
        Supplier<RefusedLast> later = () -> Check.yard("gate 5 1; gate 4 0 knows 2 knows 1; cart 2");
        check.tells("31: never then", later, 99, x -> x.harm(1, 2));
        check.tells("31: one more", later, 1, x -> x.harm(1, 0));
        check.tells("31: none more", later, 0, x -> x.harm(0, 2));
        check.tells("31: one fewer", () -> Check.yard("gate 1 0; cart 1"), -1, x -> x.harm(0, 1));
    }

    private static void foe(String text, int due) {
        check.tells("30: " + text, () -> Check.yard(text), due, RefusedLast::foe);
    }

    private static void setsAndKnow() {
        badEach("32: no gate", NO_GATES, (x, v) -> x.sets(v, 0));
        badEach("32: no colour", NO_COLOURS, (x, v) -> x.sets(0, v));
        badEach("33: no gate", NO_GATES, RefusedLast::know);
        tells("32: it is already", 0, x -> x.sets(0, 0));
        tells("32: by one try", 1, x -> x.sets(0, 2));
        tells("32: never, open to everybody", -1, x -> x.sets(2, 0));
        tells("33: not known", -1, x -> x.know(0));
        Supplier<RefusedLast> two = () -> Check.yard("colours 2; gate 2 0; gate 0 0 knows 1");
        check.tells("33: TWO of two", two, 2, x -> x.know(0));
        check.tells("33: GATE", two, -1, x -> x.know(1));
        check.tells("32: GATE, it is already", two, 0, x -> x.sets(1, 1));
        check.tells("32: GATE, never", two, -1, x -> x.sets(1, 0));
        // open to SECOND alone: what it opens to has to be driven out first
        Supplier<RefusedLast> but = () -> Check.yard("gate 3 0 knows 0 knows 1; gate 2 0 knows 0 knows 1; gate 4 0 knows 0 knows 2");
        check.tells("32: BUT, the one it opens to", but, 2, x -> x.sets(0, 1));
        check.tells("32: TWO, the second", but, 2, x -> x.sets(1, 1));
        check.tells("32: LET, any other", but, 1, x -> x.sets(2, 2));
    }

    private static void locks() {
        badEach("34: m", new int[] {-1, 7, MIN, MAX}, RefusedLast::lock);
        badEach("35: m", new int[] {-1, 7, MIN, MAX}, (x, v) -> x.key(v, 0));
        for (int m = 0; m <= 6; m++) {
            int rows = m;
            badEach("35: no place in " + m + ",", new int[] {-1, m, 6, MIN, MAX}, (x, v) -> x.key(rows, v));
            check.tells("34: to none", () -> Check.yard("gate 5 0"), m == 0 ? 1 : 0, x -> x.lock(rows));
            check.tells("34: once", () -> Check.yard("gate 4 0 knows 2"), m <= 1 ? 1 : 0, x -> x.lock(rows));
            check.tells("34: no gates", RefusedLast::new, (long) Math.pow(3, m), x -> x.lock(rows));
            check.tells("34: no gates, two colours", () -> Check.yard("colours 2"), 1L << m, x -> x.lock(rows));
            if (m > 0) {
                check.tells("35: no gates", RefusedLast::new, 0, x -> x.key(rows, rows - 1));
                check.tells("35: all 2", () -> Check.yard("gate 0 8; gate 5 1; cart 0"), 2, x -> x.key(rows, rows - 1));
                check.refused("35: to none", () -> Check.yard("gate 5 1; gate 5 0"), -5, x -> x.key(rows, 0));
                check.refused("35: BAD, ahead of none", () -> Check.yard("gate 5 0"), -2, x -> x.key(rows, rows));
            }
        }
        check.refused("35: not twice", () -> Check.yard("gate 4 0 knows 2"), -5, x -> x.key(2, 0));
        check.tells("35: once", () -> Check.yard("gate 4 0 knows 2"), 2, x -> x.key(1, 0));
        String six = "gate 2 0 knows 1 knows 2; gate 5 1; gate 5 1; gate 5 1; gate 5 1; ";
        check.tells("34: six gates", () -> Check.yard(six + "gate 1 0 knows 2"), 1, x -> x.lock(6));
        check.tells("34: six gates, the last to none", () -> Check.yard(six + "gate 5 0"), 0, x -> x.lock(6));
        check.tells("35: six gates", () -> Check.yard(six + "gate 1 0 knows 2"), 2, x -> x.key(6, 5));
        check.tells("34: six gates, 64 rows", () -> Check.yard(six + "gate 5 1"), 64, x -> x.lock(6));
    }

    private static void rowsOfColours() {
        for (int what = 0; what < 3; what++) {
            int w = what;
            rowRefused("36: makes, what " + w, 20, (x, s, n) -> x.makes(s, n, 0, w));
            if (w < 2) {
                rowRefused("37: stream, what " + w, 20, (x, s, n) -> x.stream(s, n, 0, w));
                rowRefused("38: scratched, what " + w, 6, (x, s, n) -> x.scratched(s, n, 0, w));
            }
        }
        badEach("36: no gate", NO_GATES, (x, v) -> x.makes(0, 1, v, 0));
        badEach("36: no what", new int[] {-1, 3, MIN, MAX}, (x, v) -> x.makes(0, 1, 0, v));
        bad("36: no gate, ahead of OTHER", x -> x.makes(1, 1, 3, 0));
        bad("36: no what, ahead of NOTHING", x -> x.makes(2, 1, 0, 3));
        badEach("37: no gate", NO_GATES, (x, v) -> x.stream(0, 1, v, 0));
        badEach("37: no what", new int[] {-1, 2, MIN, MAX}, (x, v) -> x.stream(0, 1, 0, v));
        bad("37: no gate, ahead of OTHER", x -> x.stream(1, 1, 3, 0));
        bad("37: no what, ahead of NOTHING", x -> x.stream(2, 1, 0, 2));
        badEach("38: no gate", NO_GATES, (x, v) -> x.scratched(0, 1, v, 0));
        badEach("38: no what", new int[] {-1, 2, MIN, MAX}, (x, v) -> x.scratched(0, 1, 0, v));
        bad("38: no gate, ahead of OTHER", x -> x.scratched(1, 1, 3, 0));
        bad("38: no what, ahead of NOTHING", x -> x.scratched(2, 1, 0, 2));
        // gate 0 knows 0, 1: 0 is let in, 1, 2 are refused, 2 is let in
        tells("36: four of them", 0b1001, x -> x.makes(0, 4, 0, 0));
        tells("36: FIRST", 2, x -> x.makes(0, 4, 0, 1));
        tells("36: SECOND", 1, x -> x.makes(0, 4, 0, 2));
        tells("36: one of them", 1, x -> x.makes(0, 1, 0, 0));
        tells("37: two of them", 0, x -> x.stream(0, 2, 0, 0));
        tells("38: four of them, no two alike together", 6, x -> x.scratched(0, 4, 0, 0));
        tells("38: as if it knew nothing", 1, x -> x.scratched(0, 1, 0, 0));
        tells("38: FIRSTS", 1, x -> x.scratched(0, 1, 0, 1));
        tells("38: to everybody", 0, x -> x.scratched(0, 1, 2, 0));
        Supplier<RefusedLast> fresh = () -> withRow("gate 1 0");
        check.tells("36: SECOND is NONE, not refused", fresh, -1, x -> x.makes(0, 1, 0, 2));
        check.tells("36: FIRST is NONE, not refused", () -> withRow("gate 5 0"), -1, x -> x.makes(0, 1, 0, 1));
    }

    /** In SHELF 0 the first four are COLOURS, the fifth and the sixth aren't. */
    private static void rowRefused(String call, int most, AskedOfRow asked) {
        badEach(call + ", no shelf", NO_SHELVES, (x, v) -> asked.of(x, v, 1));
        badEach(call + ", n", new int[] {0, -1, most + 1, MIN, MAX}, (x, v) -> asked.of(x, 0, v));
        badEach(call + ", n, ahead of OTHER", new int[] {0, most + 1}, (x, v) -> asked.of(x, 1, v));
        badEach(call + ", n, ahead of NOTHING", new int[] {0, most + 1}, (x, v) -> asked.of(x, 2, v));
        bad(call + ", fewer than one", x -> asked.of(x, 7, 1));
        badEach(call + ", no colours among", new int[] {5, 6}, (x, v) -> asked.of(x, 0, v));
        for (int n = 1; n <= most; n += most - 1) {
            int last = n;
            check.refused(call + ", a gate, " + n, ThoughtEdgesTest::some, -3, x -> asked.of(x, 1, last));
            check.refused(call + ", nothing, " + n, ThoughtEdgesTest::some, -4, x -> asked.of(x, 2, last));
            check.refused(call + ", one fewer than " + n, () -> zeros(last - 1), -2, x -> asked.of(x, 0, last));
            check.due(call + ", " + n, asked.of(zeros(last), 0, last) >= -1 ? 1 : 0, 1);
        }
        long[] noColours = {-1, 3, 1L << 32, 1L << 62, Long.MIN_VALUE, Long.MAX_VALUE};
        for (long told : noColours) {
            Supplier<RefusedLast> made = () -> {
                RefusedLast x = zeros(2);
                x.set(0, 1, told);
                return x;
            };
            check.refused(call + ", no colour " + told, made, -2, x -> asked.of(x, 0, 2));
            check.due(call + ", ahead of that", asked.of(made.get(), 0, 1) >= -1 ? 1 : 0, 1);
        }
    }

    private static RefusedLast zeros(int n) {
        RefusedLast x = Check.yard("gate 1 0");
        x.row(0, 3, n);
        return x;
    }

    private static void longestRows() {
        Supplier<RefusedLast> twenty = () -> {
            RefusedLast x = Check.yard("gate 5 1; gate 1 0; gate 0 2; gate 5 0; gate 3 0; gate 4 0");
            x.row(0, 0, 20);
            x.set(0, 0, 2);
            x.set(0, 19, 2);
            return x;
        };
        check.tells("36: 20 let in", twenty, (1 << 20) - 1, x -> x.makes(0, 20, 0, 0));
        check.tells("36: the last refused", twenty, (1 << 19) - 4, x -> x.makes(0, 20, 1, 0));
        check.tells("36: the first and the last", twenty, (1 << 19) + 1, x -> x.makes(0, 20, 2, 0));
        check.tells("36: FIRST then", twenty, 2, x -> x.makes(0, 20, 1, 1));
        check.tells("36: SECOND then", twenty, 0, x -> x.makes(0, 20, 1, 2));
        check.tells("37: 20 of a round", twenty, 20, x -> x.stream(0, 20, 0, 0));
        check.tells("37: one round", twenty, 1, x -> x.stream(0, 20, 0, 1));
        // behind the first round the row begins with what was refused last
        check.tells("37: 1, 17 and 0 let in", twenty, 18, x -> x.stream(0, 20, 1, 0));
        check.tells("37: none of a round", twenty, 0, x -> x.stream(0, 20, 3, 0));
        streamsFromMemory();
        longestScratches();
    }

    /** The long run may depend on what the MEMORY was at first. */
    private static void streamsFromMemory() {
        String[] texts = {"gate 2 0 knows 1", "gate 2 0", "gate 2 0 knows 0 knows 2", "gate 0 0; gate 2 0 knows 1; share 1 0"};
        int[] let = {3, 0, 3, 0};
        int[] rounds = {2, 1, 2, 1};
        for (int i = 0; i < texts.length; i++) {
            String text = texts[i];
            Supplier<RefusedLast> made = () -> {
                RefusedLast x = Check.yard(text);
                Check.fill(x, 0, 2, 1, 0);
                return x;
            };
            int gate = i / 3;
            check.tells("37: let, " + text, made, let[i], x -> x.stream(0, 3, gate, 0));
            check.tells("37: rounds, " + text, made, rounds[i], x -> x.stream(0, 3, gate, 1));
        }
    }

    private static void longestScratches() {
        String six = "gate 5 0; gate 1 0; gate 2 0; gate 3 0; gate 4 0; gate 0 1";
        long[][] rows = {{0, 0, 0, 0, 0, 0}, {1, 1, 1, 1, 1, 1}, {2, 2, 2, 2, 2, 2}, {2, 2, 2, 2, 1, 1}, {2, 2, 2, 1, 1, 0},
            {0, 0, 0, 1, 1, 1}, {0, 2, 0, 2, 0, 2}};
        int[] anyOrder = {1, 1, 1, 15, 60, 20, 20};
        int[] neverTwice = {0, 0, 0, 0, 10, 2, 2};
        int[] notOne = {1, 0, 1, 0, 0, 0, 20};
        for (int i = 0; i < rows.length; i++) {
            long[] row = rows[i];
            Supplier<RefusedLast> made = () -> {
                RefusedLast x = Check.yard(six);
                Check.fill(x, 0, row);
                return x;
            };
            check.tells("38: any order, row " + i, made, anyOrder[i], x -> x.scratched(0, 6, 0, 0));
            check.tells("38: no FIRSTS, row " + i, made, 0, x -> x.scratched(0, 6, 0, 1));
            check.tells("38: never one twice, row " + i, made, neverTwice[i], x -> x.scratched(0, 6, 1, 0));
            check.tells("38: none of colour 1, row " + i, made, notOne[i], x -> x.scratched(0, 6, 5, 0));
        }
    }

    private static void drives() {
        badEach("39: n", new int[] {-1, 0, 41, MIN, MAX}, RefusedLast::drive);
        check.tells("39: no carts", () -> Check.yard("gate 5 1"), 0, x -> x.drive(40));
        check.tells("39: out with no gates", () -> Check.yard("cart 0"), 0, x -> x.drive(1));
        RefusedLast one = Check.yard("gate 5 1; gate 5 1; cart 0");
        check.due("39: one try", one.drive(1), 1);
        check.due("39: a draw below 1 is a draw", one.status(7), 1103527590);
        check.due("39: till it is out", one.drive(40), 1);
        check.due("39: two draws", one.status(7), 1103527590 * 1103515245 + 12345);
        check.due("39: two tries", one.status(4), 2);
        RefusedLast most = Check.yard("gate 5 0; cart 0; cart 1; cart 2; cart 0; cart 1; cart 2");
        check.due("39: 40 tries", most.drive(40), 0);
        check.due("44: 40 tries", most.status(4), 40);
        int seed = 1;
        for (int i = 0; i < 40; i++) {
            seed = (int) (seed * 1103515245L + 12345);
        }
        check.due("39: 40 draws", most.status(7), seed);
        RefusedLast six = Check.yard("gate 5 1; gate 5 1; gate 5 1; gate 5 1; gate 5 1; gate 5 1; cart 0; cart 0; cart 0;"
                + "cart 0; cart 0; cart 0");
        check.due("39: 36 of 40", six.drive(40), 36);
        check.due("44: till all are out", six.status(4), 36);
    }

    /** SEED is an int that wraps; of what is drawn its upper 16 bits count, without a sign. */
    private static void seedsWrap() {
        int[] seeds = {0, 1, 2, 3, -1, -2, -7, MAX, MIN, MAX - 1, MIN + 1, 65535, 65536, 1 << 30, -1 << 30, 12345, 987654321};
        boolean below = false;
        boolean above = false;
        for (int seed : seeds) {
            long drawn = (seed * 1103515245L + 12345L) & 0xFFFFFFFFL;
            RefusedLast x = Check.yard("gate 5 1; cart 0; cart 0 at 1; cart 0; cart 0; cart 0 at 1; cart 0");
            int[] waiting = {0, 2, 3, 5};
            check.due("41: SEED was", x.seed(seed), 1);
            check.due("44: SEED is", x.status(7), seed);
            check.due("39: let in", x.drive(1), 1);
            check.due("39: SEED wraps, " + seed, x.status(7), (int) drawn);
            check.due("39: who it was by " + seed, x.status(3), 18 | 1 << waiting[(int) ((drawn >> 16) % 4)]);
            check.due("41: SEED was", x.seed(0), (int) drawn);
            RefusedLast y = Check.yard("gate 5 0; cart 0; cart 0; cart 0; gate 0 0; cart 1 at 1; cart 2 at 1");
            y.seed(seed);
            y.drive(1);
            long who = (drawn >> 16) % 5;
            check.due("39: who of five by " + seed, y.gateOf(0, 5), who < 3 ? 1 : 0);
            below |= (int) drawn < 0;
            above |= (int) drawn > 0;
        }
        check.due("39: some are below 0, some above", below && above ? 1 : 0, 1);
    }

    private static void images() {
        check.refused("43: nothing was kept", ThoughtEdgesTest::some, -5, RefusedLast::back);
        tells("42: image", 1, RefusedLast::image);
        Supplier<RefusedLast> kept = () -> {
            RefusedLast x = some();
            x.image();
            return x;
        };
        check.tells("43: back at once", kept, 1, RefusedLast::back);
        check.tells("42: once more", kept, 1, RefusedLast::image);
        RefusedLast x = kept.get();
        RefusedLast twin = some();
        x.gate(5, 1);
        x.gate(5, 0);
        x.cart(2);
        x.home();
        x.share(2, 1);
        x.tell(1, -1, 2);
        x.paint(0, 1);
        x.seed(MIN);
        x.drive(40);
        check.due("43: back", x.back(), 1);
        check.due("43: all is as it was", Check.state(x).equals(Check.state(twin)) ? 1 : 0, 1);
        x.tries(1);
        check.due("43: back again", x.back(), 1);
        check.due("43: all is as it was, again", Check.state(x).equals(Check.state(twin)) ? 1 : 0, 1);
        RefusedLast y = new RefusedLast();
        check.due("43: nothing kept", y.back(), -5);
        y.image();
        y.colours(2);
        y.tries(0);
        Check.feed(y, "colours 2; ");
        y.row(0, 0, 3);
        check.due("43: back to no gates and no carts", y.back(), 1);
        check.due("43: 3 colours", y.status(2), 3);
        check.due("43: THE TAPE isn't kept", y.status(6), 11);
        check.due("43: REFUSALS aren't", y.status(12) + y.status(15), 2);
        check.due("43: SHELVES aren't", y.holds(0), 0);
        Check.feed(y, "cart 2");
        check.due("43: THE TAPE goes on", y.yard(), -20 - 16);
    }

    /** SHELVES with GATES hold those of the same numbers, or NOTHING. */
    private static void shelvesBehindBack() {
        for (int s = 0; s < 8; s++) {
            RefusedLast x = Check.yard("gate 0 4; gate 0 5");
            x.image();
            Check.read(x, "gate 0 6");
            x.show(s, 2);
            x.show((s + 1) % 8, 1);
            x.show((s + 2) % 8, 0);
            x.row((s + 3) % 8, 4, 1);
            check.due("44: four shelves", x.status(8), 4);
            x.back();
            check.due("43: that is there no more, " + s, x.holds(s), -1);
            check.due("43: the last that is there, " + s, x.holds((s + 1) % 8), 11);
            check.due("43: the first, " + s, x.holds((s + 2) % 8), 10);
            check.due("43: a row, " + s, x.holds((s + 3) % 8), 4);
            check.due("44: three shelves", x.status(8), 3);
            check.due("8: NOTHING", x.says(s, 0), -4);
            check.due("8: the one of the same number", x.says((s + 1) % 8, 0), 5);
        }
        RefusedLast y = new RefusedLast();
        y.image();
        y.gate(0, 3);
        y.show(0, 0);
        y.back();
        check.due("43: none are there", y.holds(0), -1);
        y.gate(5, 1);
        y.image();
        y.show(0, 0);
        check.due("8: 1 of the new one", y.says(0, 5), 1);
        y.gate(1, 1);
        y.back();
        check.due("43: that of the same number", y.holds(0), 10);
    }
}
