import java.util.function.Supplier;
import java.util.function.ToLongFunction;

/**
 * Promises 1 to 23, and 44, at their edges: what is refused, with which number, in which order and with nothing
 * changed by it; what isn't refused though it stands at the edge; the first and the last of everything; all full.
 */
public final class EdgesTest {
    private static final int MIN = Integer.MIN_VALUE;
    private static final int MAX = Integer.MAX_VALUE;
    private static final int[] NO_SHELVES = {-1, 8, MIN, MAX};
    private static final int[] NO_GATES = {-1, 3, 6, MIN, MAX};
    private static final int[] NO_CARTS = {-1, 2, 6, MIN, MAX};
    private static final int[] NO_COLOURS = {-1, 3, MIN, MAX};
    private static final Check check = new Check();

    interface Asked {
        long of(RefusedLast x, int v);
    }

    public static void main(String[] args) {
        newObject();
        row();
        set();
        whatIsPut();
        copy();
        copyNumbers();
        elementAndHolds();
        show();
        says();
        colours();
        twoColours();
        gateAndCart();
        placeAndPaint();
        tell();
        share();
        tape();
        gateOfAndCartOf();
        opensAndReady();
        tries();
        status();
        full();
        allOut();
        check.end();
    }

    /** 3 GATES, 2 CARTS; SHELF 0 has longs, 1 GATE 1, 2 NOTHING, 3 ints, 7 none of booleans; something of all else. */
    private static RefusedLast some() {
        RefusedLast x = Check.yard("gate 1 0 knows 1; gate 2 7; gate 5 1; cart 0; cart 2 at 1");
        Check.fill(x, 0, 0, 1, 2, 2, 9, -1);
        x.show(1, 1);
        x.row(3, 2, 3);
        x.set(3, 2, 8);
        x.row(7, 4, 0);
        Check.feed(x, "ga");
        x.tries(0);
        x.seed(77);
        return x;
    }

    /** 6 GATES, one of each KIND, and 6 CARTS, one ahead of each. */
    private static RefusedLast sixOfEach() {
        return Check.yard("gate 0 0; gate 1 0 knows 1; gate 2 0 knows 0 knows 1; gate 3 0 knows 0 knows 2;"
                + "gate 4 0 knows 1 knows 0; gate 5 1; cart 0; cart 1 at 1; cart 2 at 2; cart 0 at 3; cart 1 at 4; cart 2 at 5");
    }

    private static void bad(String call, ToLongFunction<RefusedLast> asked) {
        check.refused(call, EdgesTest::some, -2, asked);
    }

    private static void badEach(String call, int[] values, Asked asked) {
        for (int v : values) {
            bad(call + " " + v, x -> asked.of(x, v));
        }
    }

    private static void other(String call, ToLongFunction<RefusedLast> asked) {
        check.refused(call, EdgesTest::some, -3, asked);
    }

    private static void nothing(String call, ToLongFunction<RefusedLast> asked) {
        check.refused(call, EdgesTest::some, -4, asked);
    }

    private static void tells(String call, long due, ToLongFunction<RefusedLast> asked) {
        check.tells(call, EdgesTest::some, due, asked);
    }

    private static void newObject() {
        RefusedLast used = some();
        used.image();
        used.tries(9);
        RefusedLast x = new RefusedLast();
        check.due("1: nothing of another object", x.status(4) + x.status(5) + x.status(6) + x.status(8) + x.status(12), 0);
        Supplier<RefusedLast> fresh = RefusedLast::new;
        check.refused("1: no image", fresh, -5, RefusedLast::back);
        check.refused("1: no gate", fresh, -2, y -> y.gateOf(0, 0));
        check.refused("1: no cart", fresh, -2, y -> y.cartOf(0, 0));
        check.refused("1: SHELVES hold NOTHING", fresh, -4, y -> y.set(0, 0, 1));
        check.refused("1: so does the last", fresh, -4, y -> y.says(7, 0));
        check.refused("1: colour 3 is none", fresh, -2, y -> y.cart(3));
        check.due("1: colour 2 is one", x.cart(2), 0);
        check.due("1: THE TAPE is empty", x.wipe(), 0);
        check.due("1: SEED", x.seed(0), 1);
    }

    private static void row() {
        badEach("2: no shelf", NO_SHELVES, (x, v) -> x.row(v, 0, 1));
        badEach("2: no sort", new int[] {-1, 5, MIN, MAX}, (x, v) -> x.row(0, v, 1));
        badEach("2: so many elements", new int[] {-1, 41, MIN, MAX}, (x, v) -> x.row(0, 3, v));
        RefusedLast x = new RefusedLast();
        for (int sort = 0; sort < 5; sort++) {
            for (int s = 0; s < 8; s += 7) {
                check.due("2: 40 of sort " + sort, x.row(s, sort, 40), 1);
                check.due("6: sort " + sort, x.holds(s), sort);
                check.due("3: the last of them", x.set(s, 39, 1), 1);
                check.due("3: not one more", x.set(s, 40, 1), -2);
                check.due("2: none of sort " + sort, x.row(s, sort, 0), 1);
                check.due("6: sort " + sort + " of none", x.holds(s), sort);
                check.due("3: not the first", x.set(s, 0, 1), -2);
            }
        }
        RefusedLast y = new RefusedLast();
        y.row(0, 3, 40);
        for (int i = 0; i < 40; i++) {
            y.set(0, i, i + 1);
        }
        y.row(0, 3, 1);
        y.row(0, 3, 40);
        for (int i = 0; i < 40; i++) {
            check.due("2: 0 at first, " + i, y.element(0, i), 0);
        }
    }

    private static void set() {
        badEach("3: no shelf", NO_SHELVES, (x, v) -> x.set(v, 0, 1));
        badEach("3: no place", new int[] {-1, 6, 40, MIN, MAX}, (x, v) -> x.set(0, v, 1));
        bad("3: no place in none", x -> x.set(7, 0, 1));
        other("3: a gate", x -> x.set(1, 0, 1));
        other("3: a gate, ahead of no place", x -> x.set(1, -1, 1));
        nothing("3: nothing", x -> x.set(2, 0, 1));
        nothing("3: nothing, ahead of no place", x -> x.set(2, 41, 1));
        RefusedLast x = some();
        check.due("3: the first", x.set(0, 0, 5), 1);
        check.due("3: the last", x.set(0, 5, 6), 1);
        check.due("5: the first", x.element(0, 0), 5);
        check.due("5: the last", x.element(0, 5), 6);
    }

    /** What is put in keeps its lowest bits; of booleans, whether it is not 0. */
    private static void whatIsPut() {
        long[][] puts = {
            {0, 127, 127}, {0, 128, -128}, {0, 255, -1}, {0, 256, 0}, {0, -128, -128}, {0, -129, 127},
            {0, Long.MAX_VALUE, -1}, {0, Long.MIN_VALUE, 0},
            {1, 32767, 32767}, {1, 32768, -32768}, {1, 65535, -1}, {1, 65536, 0}, {1, -32768, -32768}, {1, -32769, 32767},
            {1, Long.MAX_VALUE, -1}, {1, Long.MIN_VALUE, 0},
            {2, MAX, MAX}, {2, MAX + 1L, MIN}, {2, 0xFFFFFFFFL, -1}, {2, 1L << 32, 0}, {2, MIN, MIN}, {2, MIN - 1L, MAX},
            {2, Long.MAX_VALUE, -1}, {2, Long.MIN_VALUE, 0},
            {3, Long.MAX_VALUE, Long.MAX_VALUE}, {3, Long.MIN_VALUE, Long.MIN_VALUE}, {3, MAX + 1L, MAX + 1L},
            {4, 0, 0}, {4, 1, 1}, {4, 2, 1}, {4, -1, 1}, {4, 256, 1}, {4, 1L << 32, 1}, {4, Long.MIN_VALUE, 1}};
        for (long[] put : puts) {
            RefusedLast x = new RefusedLast();
            x.row(0, (int) put[0], 1);
            check.due("3: " + put[1] + " into sort " + put[0], x.set(0, 0, put[1]), 1);
            check.due("5: " + put[1] + " in sort " + put[0], x.element(0, 0), put[2]);
        }
    }

    private static void copy() {
        badEach("4: no shelf p", NO_SHELVES, (x, v) -> x.copy(v, 0, 0, 0, 1));
        badEach("4: no shelf q", NO_SHELVES, (x, v) -> x.copy(0, v, 0, 0, 1));
        bad("4: no shelf p, ahead of a gate", x -> x.copy(8, 1, 0, 0, 1));
        bad("4: no shelf q, ahead of nothing", x -> x.copy(2, -1, 0, 0, 1));
        other("4: from a gate", x -> x.copy(1, 0, 0, 0, 1));
        other("4: to a gate", x -> x.copy(0, 1, 0, 0, 1));
        other("4: from a gate to itself", x -> x.copy(1, 1, 0, 0, 0));
        other("4: from a gate to nothing", x -> x.copy(1, 2, 0, 0, 1));
        other("4: from nothing to a gate", x -> x.copy(2, 1, 0, 0, 1));
        other("4: longs to ints", x -> x.copy(0, 3, 0, 0, 1));
        other("4: ints to longs", x -> x.copy(3, 0, 0, 0, 1));
        other("4: two sorts, none of one", x -> x.copy(0, 7, 0, 0, 0));
        other("4: two sorts, ahead of numbers", x -> x.copy(0, 3, -1, 41, MIN));
        nothing("4: from nothing", x -> x.copy(2, 0, 0, 0, 1));
        nothing("4: to nothing", x -> x.copy(0, 2, 0, 0, 1));
        nothing("4: from nothing to itself", x -> x.copy(2, 2, 0, 0, 0));
        nothing("4: nothing, ahead of numbers", x -> x.copy(2, 0, -1, 41, MAX));
    }

    private static void copyNumbers() {
        badEach("4: n", new int[] {-1, 7, 41, MIN, MAX}, (x, v) -> x.copy(0, 0, 0, 0, v));
        badEach("4: i", new int[] {-1, 6, 40, MIN, MAX}, (x, v) -> x.copy(0, 0, v, 0, 1));
        badEach("4: j", new int[] {-1, 6, 40, MIN, MAX}, (x, v) -> x.copy(0, 0, 0, v, 1));
        badEach("4: i, of none", new int[] {-1, 7, MIN, MAX}, (x, v) -> x.copy(0, 0, v, 0, 0));
        badEach("4: j, of none", new int[] {-1, 7, MIN, MAX}, (x, v) -> x.copy(0, 0, 0, v, 0));
        bad("4: one too many from 5 on", x -> x.copy(0, 0, 5, 0, 2));
        bad("4: one too many to 5 on", x -> x.copy(0, 0, 0, 5, 2));
        bad("4: one from a row of none", x -> x.copy(7, 7, 0, 0, 1));
        tells("4: none from a row of none", 0, x -> x.copy(7, 7, 0, 0, 0));
        tells("4: none from its end to its end", 0, x -> x.copy(0, 0, 6, 6, 0));
        tells("4: all over itself", 6, x -> x.copy(0, 0, 0, 0, 6));
        tells("4: the last over itself", 1, x -> x.copy(0, 0, 5, 5, 1));
        RefusedLast x = new RefusedLast();
        for (int s = 0; s < 8; s += 7) {
            x.row(s, 1, 40);
            for (int i = 0; i < 40; i++) {
                x.set(s, i, 100 + s + i);
            }
        }
        check.due("4: 39 over itself", x.copy(0, 0, 0, 1, 39), 39);
        for (int i = 0; i < 40; i++) {
            check.due("4: as they were, " + i, x.element(0, i), i == 0 ? 100 : 99 + i);
        }
        check.due("4: 39 back over itself", x.copy(7, 7, 1, 0, 39), 39);
        for (int i = 0; i < 40; i++) {
            check.due("4: as they were there, " + i, x.element(7, i), i == 39 ? 146 : 108 + i);
        }
        check.due("4: 40 to another", x.copy(0, 7, 0, 0, 40), 40);
        check.due("4: the last of it", x.element(7, 39), 138);
        check.due("4: the one it came from", x.element(0, 39), 138);
    }

    private static void elementAndHolds() {
        int[] noPlaces = {-1, 6, 39, 40, MIN, MAX};
        for (int i : noPlaces) {
            tells("5: none at " + i, 0, x -> x.element(0, i));
        }
        for (int s : NO_SHELVES) {
            tells("5: no shelf " + s, 0, x -> x.element(s, 0));
            tells("6: no shelf " + s, -1, x -> x.holds(s));
        }
        tells("5: a gate", 0, x -> x.element(1, 0));
        tells("5: nothing", 0, x -> x.element(2, 0));
        tells("5: a row of none", 0, x -> x.element(7, 0));
        tells("5: the last", -1, x -> x.element(0, 5));
        tells("6: longs", 3, x -> x.holds(0));
        tells("6: a gate", 11, x -> x.holds(1));
        tells("6: nothing", -1, x -> x.holds(2));
        tells("6: a row of none", 4, x -> x.holds(7));
        RefusedLast x = some();
        x.show(0, 2);
        check.due("5: a gate in place of a row", x.element(0, 4), 0);
        x.row(0, 3, 6);
        check.due("5: a row in place of a gate", x.element(0, 4), 0);
    }

    private static void show() {
        badEach("7: no shelf", NO_SHELVES, (x, v) -> x.show(v, 0));
        badEach("7: no shelf for nothing", NO_SHELVES, (x, v) -> x.show(v, -1));
        badEach("7: no gate", new int[] {-2, 3, 6, MIN, MAX}, (x, v) -> x.show(0, v));
        tells("7: nothing in place of nothing", 1, x -> x.show(2, -1));
        tells("7: the same gate", 1, x -> x.show(1, 1));
        check.tells("7: nothing, with no gates", RefusedLast::new, 1, x -> x.show(7, -1));
        check.refused("7: no gate 0", RefusedLast::new, -2, x -> x.show(0, 0));
        RefusedLast x = some();
        check.due("7: the last gate in the last shelf", x.show(7, 2), 1);
        check.due("6: there", x.holds(7), 12);
        check.due("7: nothing in place of a gate", x.show(7, -1), 1);
        check.due("6: nothing there", x.holds(7), -1);
        check.due("44: shelves that hold something", x.status(8), 3);
    }

    private static void says() {
        badEach("8: no shelf", NO_SHELVES, (x, v) -> x.says(v, 0));
        badEach("8: no kind", new int[] {-1, 6, MIN, MAX}, (x, v) -> x.says(1, v));
        bad("8: no kind, ahead of a row", x -> x.says(0, 6));
        bad("8: no kind, ahead of nothing", x -> x.says(2, -1));
        other("8: a row", x -> x.says(0, 0));
        other("8: a row of none", x -> x.says(7, 0));
        other("8: TWO is no BUT", x -> x.says(1, 3));
        other("8: TWO is no LET", x -> x.says(1, 4));
        other("8: TWO is no STUCK", x -> x.says(1, 5));
        nothing("8: nothing", x -> x.says(2, 0));
        tells("8: a, not modulo", 7, x -> x.says(1, 0));
        tells("8: FIRST is NONE, not refused", -1, x -> x.says(1, 1));
        tells("8: SECOND is NONE, not refused", -1, x -> x.says(1, 2));
        RefusedLast x = Check.yard("gate 5 8; gate 5 9; gate 0 9; gate 1 9");
        for (int g = 0; g < 4; g++) {
            x.show(g, g);
        }
        check.due("8: even: to nobody", x.says(0, 5), 0);
        check.due("8: odd: to everybody", x.says(1, 5), 1);
        check.due("8: STUCK is a GATE", x.says(1, 0), 9);
        check.due("8: STUCK is no LAST", x.says(1, 1), -3);
        check.due("8: GATE is no LAST", x.says(2, 1), -3);
        check.due("8: GATE is no STUCK", x.says(2, 5), -3);
        check.due("8: LAST is a GATE", x.says(3, 0), 9);
        check.due("8: LAST is no TWO", x.says(3, 2), -3);
        check.due("8: LAST is no STUCK", x.says(3, 5), -3);
    }

    private static void colours() {
        int[] noCounts = {-1, 0, 1, 4, MIN, MAX};
        for (int n : noCounts) {
            check.refused("9: not " + n, RefusedLast::new, -2, x -> x.colours(n));
            bad("9: not " + n + ", ahead of gates and carts", x -> x.colours(n));
        }
        for (int n = 2; n <= 3; n++) {
            int to = n;
            check.refused("9: " + n + " with a gate", () -> Check.yard("gate 0 0"), -5, x -> x.colours(to));
            check.refused("9: " + n + " with a cart", () -> Check.yard("cart 0"), -5, x -> x.colours(to));
        }
        check.tells("9: 3, as there are", RefusedLast::new, 3, x -> x.colours(3));
        RefusedLast x = new RefusedLast();
        check.due("9: 2", x.colours(2), 3);
        check.due("9: 2 again", x.colours(2), 2);
        check.due("9: 3 again", x.colours(3), 2);
    }

    /** With 2 COLOURS, 2 is none. */
    private static void twoColours() {
        Supplier<RefusedLast> two = () -> {
            RefusedLast x = Check.yard("colours 2; gate 1 0 knows 1; gate 0 9; gate 5 1; cart 1");
            Check.fill(x, 0, 0, 1, 2);
            return x;
        };
        check.refused("11: cart(2)", two, -2, x -> x.cart(2));
        check.refused("13: paint(0, 2)", two, -2, x -> x.paint(0, 2));
        check.refused("14: FIRST 2", two, -2, x -> x.tell(0, 2, 0));
        check.refused("14: SECOND 2", two, -2, x -> x.tell(0, 0, 2));
        check.refused("31: harm(0, 2)", two, -2, x -> x.harm(0, 2));
        check.refused("32: sets(0, 2)", two, -2, x -> x.sets(0, 2));
        check.refused("36: makes of 2", two, -2, x -> x.makes(0, 3, 0, 0));
        check.refused("37: stream of 2", two, -2, x -> x.stream(0, 3, 0, 0));
        check.refused("38: scratched by 2", two, -2, x -> x.scratched(0, 3, 0, 0));
        check.tells("36: makes of 0 and 1", two, 0, x -> x.makes(0, 2, 0, 0));
        check.tells("21: 9 modulo 2", two, 2, x -> x.opens(1));
        check.tells("21: everybody is two", two, 3, x -> x.opens(2));
        check.tells("34: no third", () -> Check.yard("colours 2; gate 5 1"), 64, x -> x.lock(6));
        check.tells("30: no third", () -> Check.yard("colours 2; gate 1 0 knows 0; cart 0"), 1, RefusedLast::foe);
    }

    private static void gateAndCart() {
        badEach("10: no kind", new int[] {-1, 6, MIN, MAX}, (x, v) -> x.gate(v, 0));
        badEach("10: no a", new int[] {-1, 10, MIN, MAX}, (x, v) -> x.gate(0, v));
        badEach("11: no colour", NO_COLOURS, (x, v) -> x.cart(v));
        check.refused("10: FULL", EdgesTest::sixOfEach, -6, x -> x.gate(0, 0));
        check.refused("10: BAD kind, ahead of FULL", EdgesTest::sixOfEach, -2, x -> x.gate(6, 0));
        check.refused("10: BAD a, ahead of FULL", EdgesTest::sixOfEach, -2, x -> x.gate(0, 10));
        check.refused("11: FULL", EdgesTest::sixOfEach, -6, x -> x.cart(0));
        check.refused("11: BAD, ahead of FULL", EdgesTest::sixOfEach, -2, x -> x.cart(-1));
        RefusedLast x = new RefusedLast();
        for (int k = 0; k < 6; k++) {
            check.due("11: cart " + k, x.cart(k % 3), k);
            check.due("11: at 0", x.cartOf(k, 1), 0);
        }
        check.due("1: all are out of no gates", x.status(3), 63);
        for (int g = 0; g < 6; g++) {
            check.due("10: gate " + g, x.gate(g, 9), g);
            check.due("10: carts that were out stand ahead", x.status(3), 0);
            check.due("10: FIRST", x.gateOf(g, 2), -1);
            check.due("10: SECOND", x.gateOf(g, 3), -1);
            check.due("10: its own memory", x.gateOf(g, 4), g);
            check.due("10: no scratches", x.gateOf(g, 5), 0);
            for (int k = 0; k < 6; k++) {
                x.place(k, g + 1);
            }
            check.due("12: all are out again", x.status(3), 63);
        }
    }

    private static void placeAndPaint() {
        badEach("12: no cart", NO_CARTS, (x, v) -> x.place(v, 0));
        badEach("12: no place", new int[] {-1, 4, 6, MIN, MAX}, (x, v) -> x.place(0, v));
        badEach("13: no cart", NO_CARTS, (x, v) -> x.paint(v, 0));
        badEach("13: no colour", NO_COLOURS, (x, v) -> x.paint(0, v));
        check.refused("12: no place 1 of no gates", () -> Check.yard("cart 0"), -2, x -> x.place(0, 1));
        check.tells("12: place 0 of no gates", () -> Check.yard("cart 0"), 0, x -> x.place(0, 0));
        RefusedLast x = some();
        int[] places = {3, 0, 2, 1, 3, 3};
        int was = 1;
        for (int place : places) {
            check.due("12: to " + place, x.place(1, place), was);
            check.due("20: out at 3", x.cartOf(1, 2), place == 3 ? 1 : 0);
            was = place;
        }
        int[] paints = {0, 2, 1, 1, 0};
        was = 2;
        for (int colour : paints) {
            check.due("13: to " + colour, x.paint(1, colour), was);
            check.due("13: not the other", x.cartOf(0, 0), 0);
            was = colour;
        }
    }

    private static void tell() {
        badEach("14: no gate", NO_GATES, (x, v) -> x.tell(v, 0, 0));
        badEach("14: no FIRST", new int[] {-2, 3, MIN, MAX}, (x, v) -> x.tell(0, v, 0));
        badEach("14: no SECOND", new int[] {-2, 3, MIN, MAX}, (x, v) -> x.tell(0, 0, v));
        badEach("14: no SECOND, behind NONE", new int[] {-2, 3}, (x, v) -> x.tell(0, -1, v));
        tells("14: as it is", 1, x -> x.tell(0, 0, 1));
        for (int first = -1; first < 3; first++) {
            for (int second = -1; second < 3; second++) {
                RefusedLast x = some();
                check.due("14: tell", x.tell(2, first, second), 1);
                check.due("14: FIRST", x.gateOf(2, 2), first);
                check.due("14: SECOND", x.gateOf(2, 3), second);
                check.due("14: not of another", x.gateOf(1, 2), -1);
            }
        }
    }

    private static void share() {
        badEach("15: no gate", NO_GATES, (x, v) -> x.share(v, 0));
        badEach("15: no gate for its own", NO_GATES, (x, v) -> x.share(v, -1));
        badEach("15: not below 1", new int[] {-2, 1, 2, 3, MIN, MAX}, (x, v) -> x.share(1, v));
        badEach("15: none is below 0", new int[] {-2, 0, 1, MAX}, (x, v) -> x.share(0, v));
        for (int g = 0; g < 3; g++) {
            int gate = g;
            tells("15: its own already, " + g, 0, x -> x.share(gate, -1));
        }
        Supplier<RefusedLast> oneUsesZero = () -> Check.yard("gate 1 0; gate 1 0; gate 1 0; share 1 0");
        check.tells("15: that of 0 already", oneUsesZero, 0, x -> x.share(1, 0));
        check.tells("15: its own already, though used", oneUsesZero, 0, x -> x.share(0, -1));
        check.refused("15: 1 doesn't use its own", oneUsesZero, -5, x -> x.share(2, 1));
        Supplier<RefusedLast> twoUsesOne = () -> Check.yard("gate 1 0; gate 1 0; gate 1 0; share 2 1");
        check.refused("15: another uses that of 1", twoUsesOne, -5, x -> x.share(1, 0));
        check.refused("15: BAD, ahead of another uses it", twoUsesOne, -2, x -> x.share(1, 2));
        check.tells("15: its own already, though 2 uses it", twoUsesOne, 0, x -> x.share(1, -1));
        Supplier<RefusedLast> both = () -> Check.yard("gate 1 0; gate 1 0; gate 1 0; gate 1 0; share 1 0; share 3 2");
        check.refused("15: both", both, -5, x -> x.share(2, 1));
        RefusedLast x = Check.yard("gate 1 0; gate 1 0; gate 1 0; gate 1 0; gate 1 0; gate 1 0");
        for (int g = 1; g < 6; g++) {
            check.due("15: all use that of 0", x.share(g, 0), 1);
        }
        x.tell(5, 2, 1);
        for (int g = 0; g < 6; g++) {
            check.due("15: all know", x.gateOf(g, 2), 2);
        }
        for (int g = 1; g < 6; g++) {
            check.due("15: its own again", x.share(g, -1), 1);
            check.due("15: which knows nothing", x.gateOf(g, 2), -1);
        }
        check.due("15: 5 uses that of 4", x.share(5, 4), 1);
        check.due("15: then 4 can't use that of 3", x.share(4, 3), -5);
    }

    private static void tape() {
        badEach("16: no byte", new int[] {-1, 256, MIN, MAX}, (x, v) -> x.feed(v));
        Supplier<RefusedLast> fullTape = () -> {
            RefusedLast x = new RefusedLast();
            Check.feed(x, " ".repeat(250));
            return x;
        };
        check.refused("16: FULL", fullTape, -6, x -> x.feed(0));
        check.refused("16: BAD, ahead of FULL", fullTape, -2, x -> x.feed(-1));
        RefusedLast x = some();
        check.due("16: the third byte", x.feed(255), 3);
        check.due("16: and a fourth", x.feed(0), 4);
        check.due("17: four", x.wipe(), 4);
        check.due("17: none", x.wipe(), 0);
        check.due("16: the first byte", x.feed('g'), 1);
        check.due("18: a fault", x.yard(), -20);
        check.due("18: that is BAD", x.status(12), 1);
        check.due("44: and empties THE TAPE", x.status(6), 0);
        check.due("18: nothing ends too early", x.yard(), -20);
        check.due("18: that is BAD, too", x.status(12), 2);
        check.due("18: nothing else", x.status(13) + x.status(14) + x.status(15) + x.status(16), 0);
        RefusedLast faulty = some();
        RefusedLast twin = some();
        faulty.wipe();
        twin.wipe();
        check.due("18: a fault in the sixth", Check.read(faulty,
                "gate 3 3 knows 1; share 1 0; forget 0; cart 1 at 4; share 3 2; cart 2 at 5"), -93);
        check.due("18: or nothing", Check.state(faulty).equals(Check.state(twin)) ? 1 : 0, 1);
    }

    private static void gateOfAndCartOf() {
        badEach("19: no gate", NO_GATES, (x, v) -> x.gateOf(v, 0));
        badEach("19: no what", new int[] {-1, 6, MIN, MAX}, (x, v) -> x.gateOf(0, v));
        bad("19: neither", x -> x.gateOf(3, 6));
        badEach("20: no cart", NO_CARTS, (x, v) -> x.cartOf(v, 0));
        badEach("20: no what", new int[] {-1, 3, MIN, MAX}, (x, v) -> x.cartOf(0, v));
        bad("20: neither", x -> x.cartOf(2, 3));
        tells("19: FIRST is NONE, not refused", -1, x -> x.gateOf(1, 2));
        tells("19: SECOND is NONE, not refused", -1, x -> x.gateOf(2, 3));
        tells("19: scratches", 1, x -> x.gateOf(0, 5));
        tells("20: place", 1, x -> x.cartOf(1, 1));
        tells("20: not out", 0, x -> x.cartOf(1, 2));
        check.tells("20: out with no gates", () -> Check.yard("cart 1"), 1, x -> x.cartOf(0, 2));
    }

    private static void opensAndReady() {
        badEach("21: no gate", NO_GATES, (x, v) -> x.opens(v));
        tells("21: to what it last refused", 1, x -> x.opens(0));
        tells("21: to nothing yet", 0, x -> x.opens(1));
        tells("21: to everybody", 7, x -> x.opens(2));
        tells("22: the first cart", 1, RefusedLast::ready);
        check.tells("22: no carts", () -> Check.yard("gate 5 1"), 0, RefusedLast::ready);
        check.tells("22: no gates", () -> Check.yard("cart 0; cart 1"), 0, RefusedLast::ready);
        check.tells("22: none that is out", () -> Check.yard("gate 5 1; cart 0 at 1; cart 1"), 2, RefusedLast::ready);
        for (int a = 0; a < 10; a++) {
            int due = a;
            check.tells("21: a " + a, () -> Check.yard("gate 0 " + due), 1 << a % 3, x -> x.opens(0));
            check.tells("21: a " + a + " of two", () -> Check.yard("colours 2; gate 0 " + due), 1 << a % 2, x -> x.opens(0));
            check.tells("21: stuck by " + a, () -> Check.yard("gate 5 " + due), a % 2 * 7, x -> x.opens(0));
        }
    }

    private static void tries() {
        badEach("23: no cart", NO_CARTS, (x, v) -> x.tries(v));
        check.refused("23: out with no gates", () -> Check.yard("cart 0"), -5, x -> x.tries(0));
        check.refused("23: out", () -> Check.yard("gate 5 1; cart 0 at 1"), -5, x -> x.tries(0));
        RefusedLast x = Check.yard("gate 5 1; gate 5 1; cart 0");
        check.due("23: let in", x.tries(0), 1);
        check.due("23: let in again", x.tries(0), 1);
        check.due("23: out", x.tries(0), -5);
        check.due("44: two tries", x.status(4), 2);
        check.due("44: no scratches", x.status(5), 0);
        check.due("20: behind the last gate", x.cartOf(0, 1), 2);
    }

    private static void status() {
        int[] none = {-1, -2, 9, 10, 11, 17, 18, MIN, MAX};
        for (int what : none) {
            tells("44: NONE, " + what, -1, x -> x.status(what));
        }
        long[] due = {3, 2, 3, 0, 1, 1, 2, 77, 4, -1, -1, -1, 0, 0, 0, 0, 0};
        for (int what = 0; what < due.length; what++) {
            int asked = what;
            tells("44: status " + what, due[what], x -> x.status(asked));
        }
        RefusedLast x = some();
        for (int s = 0; s < 8; s++) {
            x.row(s, 0, s);
        }
        check.due("44: all shelves hold something", x.status(8), 8);
    }

    /** The last GATE and the last CART there may be. */
    private static void full() {
        int[] opens = {1, 2, 3, 4, 2, 7};
        for (int g = 0; g < 6; g++) {
            int gate = g;
            check.tells("21: of six, gate " + g, EdgesTest::sixOfEach, opens[g], x -> x.opens(gate));
        }
        check.tells("22: of six", EdgesTest::sixOfEach, 1 + 2 + 16 + 32, RefusedLast::ready);
        check.refused("19: no gate 6", EdgesTest::sixOfEach, -2, x -> x.gateOf(6, 0));
        check.refused("20: no cart 6", EdgesTest::sixOfEach, -2, x -> x.cartOf(6, 0));
        check.refused("21: no gate 6", EdgesTest::sixOfEach, -2, x -> x.opens(6));
        check.refused("23: no cart 6", EdgesTest::sixOfEach, -2, x -> x.tries(6));
        check.refused("12: no place 7", EdgesTest::sixOfEach, -2, x -> x.place(5, 7));
        check.refused("7: no gate 6", EdgesTest::sixOfEach, -2, x -> x.show(0, 6));
        RefusedLast x = sixOfEach();
        int[] let = {1, 1, 0, 0, 1, 1};
        for (int k = 0; k < 6; k++) {
            check.due("23: of six, cart " + k, x.tries(k), let[k]);
        }
        check.due("44: tries", x.status(4), 6);
        check.due("44: scratches", x.status(5), 2);
        check.due("44: the last is out", x.status(3), 32);
        check.due("19: TWO, FIRST", x.gateOf(2, 2), 2);
        check.due("19: TWO, SECOND", x.gateOf(2, 3), 0);
        check.due("19: BUT, FIRST", x.gateOf(3, 2), 0);
        check.due("19: BUT, SECOND", x.gateOf(3, 3), 0);
        check.due("19: LET, FIRST", x.gateOf(4, 2), 1);
        check.due("19: LET, SECOND", x.gateOf(4, 3), 1);
        check.due("7: the last gate", x.show(7, 5), 1);
        check.due("6: the last gate", x.holds(7), 15);
        check.due("15: the last gate", x.share(5, 4), 1);
        check.due("14: the last gate", x.tell(5, 0, -1), 1);
        check.due("19: and so that below", x.gateOf(4, 2), 0);
        check.due("12: the last cart", x.place(5, 0), 6);
        check.due("13: the last cart", x.paint(5, 1), 2);
    }

    private static void allOut() {
        RefusedLast x = sixOfEach();
        for (int k = 0; k < 6; k++) {
            x.place(k, 6);
        }
        check.due("44: all six are out", x.status(3), 63);
        check.due("22: none is ready", x.ready(), 0);
        check.due("39: none tries", x.drive(40), 0);
        check.due("39: nor is there a draw", x.status(7), 1);
        check.due("40: six were out", x.home(), 6);
        check.due("40: none is", x.status(3), 0);
        for (int k = 0; k < 6; k++) {
            check.due("40: at 0", x.cartOf(k, 1), 0);
        }
        check.due("40: none was", x.home(), 0);
    }
}
