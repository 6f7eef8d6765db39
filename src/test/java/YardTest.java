/** Promises 9 to 15 and 19 to 23: the yard, what there is of it, and tries. */
public final class YardTest {
    private static final Check check = new Check();

    public static void main(String[] args) {
        coloursAreSet();
        gatesAndCarts();
        placesAndPaint();
        memoriesAreTold();
        memoriesAreShared();
        whatThereIs();
        triesByKind();
        triesOfCarts();
        check.end();
    }

    private static void coloursAreSet() {
        RefusedLast x = new RefusedLast();
        check.due("9: 3 to 2", x.colours(2), 3);
        check.due("9: 2 to 3", x.colours(3), 2);
        check.due("9: not 1", x.colours(1), -2);
        check.due("9: not 4", x.colours(4), -2);
        check.due("9: stay", x.status(2), 3);
        x.cart(0);
        check.due("9: BAD ahead of STUCK", x.colours(4), -2);
        check.due("9: a cart is there", x.colours(2), -5);
        RefusedLast y = Check.yard("gate 0 0");
        check.due("9: a gate is there", y.colours(3), -5);
    }

    private static void gatesAndCarts() {
        RefusedLast x = new RefusedLast();
        check.due("11: cart", x.cart(2), 0);
        check.due("11: out with no gates", x.cartOf(0, 2), 1);
        check.due("10: gate", x.gate(5, 9), 0);
        check.due("10: the cart stands ahead of it", x.cartOf(0, 2), 0);
        x.tries(0);
        check.due("10: the cart is out", x.cartOf(0, 2), 1);
        check.due("10: gate 1", x.gate(0, 0), 1);
        check.due("10: and ahead again", x.cartOf(0, 2), 0);
        check.due("10: no kind 6", x.gate(6, 0), -2);
        check.due("10: no kind -1", x.gate(-1, 0), -2);
        check.due("10: no a 10", x.gate(0, 10), -2);
        check.due("10: no a -1", x.gate(0, -1), -2);
        for (int i = 2; i < 6; i++) {
            check.due("10: gate " + i, x.gate(4, 9), i);
        }
        check.due("10: BAD ahead of FULL", x.gate(4, 10), -2);
        check.due("10: FULL", x.gate(4, 9), -6);
        check.due("11: no colour", x.cart(3), -2);
        check.due("11: NONE is no colour", x.cart(-1), -2);
        for (int i = 1; i < 6; i++) {
            check.due("11: cart " + i, x.cart(0), i);
        }
        check.due("11: BAD ahead of FULL", x.cart(3), -2);
        check.due("11: FULL", x.cart(0), -6);
        check.due("10, 11: FULL twice", x.status(16), 2);
    }

    private static void placesAndPaint() {
        RefusedLast x = Check.yard("gate 0 0; gate 0 0; cart 1");
        check.due("12: to 2", x.place(0, 2), 0);
        check.due("12: out", x.status(3), 1);
        check.due("12: to 1", x.place(0, 1), 2);
        check.due("12: not 3", x.place(0, 3), -2);
        check.due("12: not -1", x.place(0, -1), -2);
        check.due("12: no cart", x.place(1, 0), -2);
        check.due("12: stays", x.cartOf(0, 1), 1);
        check.due("13: to 2", x.paint(0, 2), 1);
        check.due("13: it is", x.cartOf(0, 0), 2);
        check.due("13: no colour 3", x.paint(0, 3), -2);
        check.due("13: no colour -1", x.paint(0, -1), -2);
        check.due("13: no cart", x.paint(-1, 0), -2);
    }

    private static void memoriesAreTold() {
        RefusedLast x = Check.yard("colours 2; gate 1 0; gate 0 0");
        check.due("14: told", x.tell(0, 1, 0), 1);
        check.due("14: FIRST", x.gateOf(0, 2), 1);
        check.due("14: SECOND", x.gateOf(0, 3), 0);
        check.due("14: none", x.tell(0, -1, 1), 1);
        check.due("14: FIRST none", x.gateOf(0, 2), -1);
        check.due("14: SECOND alone", x.gateOf(0, 3), 1);
        check.due("14: any kind", x.tell(1, 1, -1), 1);
        check.due("14: no colour 2 first", x.tell(0, 2, 0), -2);
        check.due("14: no colour 2 second", x.tell(0, 0, 2), -2);
        check.due("14: no colour -2", x.tell(0, -2, 0), -2);
        check.due("14: no gate", x.tell(2, 0, 0), -2);
        check.due("14: untouched", x.gateOf(0, 3), 1);
    }

    private static void memoriesAreShared() {
        RefusedLast x = Check.yard("gate 1 0 knows 2; gate 1 0 knows 1; gate 1 0 knows 0; gate 1 0");
        check.due("15: 1 uses that of 0", x.share(1, 0), 1);
        check.due("15: it did", x.share(1, 0), 0);
        check.due("15: FIRST of 0", x.gateOf(1, 2), 2);
        check.due("15: whose", x.gateOf(1, 4), 0);
        check.due("15: 1 doesn't use its own", x.share(2, 1), -5);
        check.due("15: not above", x.share(1, 2), -2);
        check.due("15: not itself", x.share(1, 1), -2);
        check.due("15: not -2", x.share(1, -2), -2);
        check.due("15: no gate 4", x.share(4, 0), -2);
        check.due("15: no gate -1", x.share(-1, -1), -2);
        check.due("15: 3 uses that of 2", x.share(3, 2), 1);
        check.due("15: another uses that of 2", x.share(2, 0), -5);
        check.due("15: it can't be twice", x.status(15), 2);
        check.due("15: 2 uses its own, as another does", x.share(2, -1), 0);
        check.due("15: 3 still uses it", x.gateOf(3, 4), 2);
        check.due("15: that isn't refused", x.status(15), 2);
        check.due("15: not above, though it is used", x.share(2, 3), -2);
        check.due("15: its own again", x.share(1, -1), 1);
        check.due("15: which it kept", x.gateOf(1, 2), 1);
        check.due("15: it did use its own", x.share(1, -1), 0);
        x.share(1, 0);
        x.tell(1, 0, 1);
        check.due("15: told to 1, 0 knows", x.gateOf(0, 2), 0);
        check.due("15: from one to another", x.share(3, 0), 1);
        check.due("15: then 2 is free", x.share(2, 0), 1);
    }

    private static void whatThereIs() {
        RefusedLast x = Check.yard("gate 4 7 knows 1; cart 2; cart 1");
        long[] due = {4, 7, 1, -1, 0, 0};
        for (int what = 0; what < 6; what++) {
            check.due("19: gateOf " + what, x.gateOf(0, what), due[what]);
        }
        check.due("19: no 6", x.gateOf(0, 6), -2);
        check.due("19: no -1", x.gateOf(0, -1), -2);
        check.due("19: no gate", x.gateOf(1, 0), -2);
        check.due("20: colour", x.cartOf(0, 0), 2);
        check.due("20: place", x.cartOf(0, 1), 0);
        check.due("20: not out", x.cartOf(0, 2), 0);
        check.due("20: no 3", x.cartOf(0, 3), -2);
        check.due("20: no -1", x.cartOf(0, -1), -2);
        check.due("20: no cart", x.cartOf(2, 0), -2);
        check.due("22: the second would be let in", x.ready(), 2);
        x.tries(0);
        check.due("19: scratched", x.gateOf(0, 5), 1);
        check.due("22: now the first", x.ready(), 1);
        x.tries(0);
        check.due("22: one that is out isn't ready", x.ready(), 0);
        check.due("20: out", x.cartOf(0, 2), 1);
        check.due("20: behind", x.cartOf(0, 1), 1);
        check.due("21: no gate", x.opens(1), -2);
    }

    /** Every kind by every memory: what it opens to, and what it remembers behind a try of each colour. */
    private static void triesByKind() {
        for (int first = -1; first < 3; first++) {
            for (int second = -1; second < 3; second++) {
                for (int c = 0; c < 3; c++) {
                    int f = first;
                    int s = second;
                    oneTry(0, 4, f, s, c, c == 1, f, s);
                    oneTry(5, 2, f, s, c, false, f, s);
                    oneTry(5, 3, f, s, c, true, f, s);
                    oneTry(1, 0, f, s, c, c == f, c == f ? f : c, c == f ? s : f);
                    boolean two = c == f || c == s;
                    oneTry(2, 0, f, s, c, two, two ? f : c, two ? s : f);
                    oneTry(3, 0, f, s, c, c == s, c == s ? f : c, c == s ? s : f);
                    boolean let = c == f && c != s;
                    oneTry(4, 0, f, s, c, let, c, let ? c : s);
                }
            }
        }
    }

    private static void oneTry(int kind, int a, int first, int second, int c, boolean in, int thenFirst, int thenSecond) {
        RefusedLast x = new RefusedLast();
        x.gate(kind, a);
        x.tell(0, first, second);
        x.cart(c);
        String what = "kind " + kind + " knows " + first + " " + second + " tried by " + c;
        check.due("21: " + what, x.opens(0) >> c & 1, in ? 1 : 0);
        check.due("22: " + what, x.ready(), in ? 1 : 0);
        check.due("23: " + what, x.tries(0), in ? 1 : 0);
        check.due("23: FIRST, " + what, x.gateOf(0, 2), thenFirst);
        check.due("23: SECOND, " + what, x.gateOf(0, 3), thenSecond);
        check.due("23: place, " + what, x.cartOf(0, 1), in ? 1 : 0);
        check.due("23: scratches, " + what, x.gateOf(0, 5), in ? 0 : 1);
        check.due("23: tries, " + what, x.status(4), 1);
    }

    private static void triesOfCarts() {
        RefusedLast x = Check.yard("colours 2; gate 0 5; gate 3 0; share 1 0; cart 1; cart 0");
        check.due("21: a is taken modulo 2", x.opens(0), 2);
        check.due("21: both of two colours", Check.yard("colours 2; gate 5 1").opens(0), 3);
        check.due("23: let in", x.tries(0), 1);
        check.due("23: refused", x.tries(1), 0);
        check.due("23: the first gate remembers nothing", x.gateOf(0, 2), -1);
        check.due("23: refused at 1", x.tries(0), 0);
        check.due("23: again", x.tries(0), 0);
        check.due("23: open to the last but one", x.tries(0), 1);
        check.due("23: scratches of 0", x.gateOf(0, 5), 1);
        check.due("23: scratches of 1", x.gateOf(1, 5), 2);
        check.due("23: shared", x.gateOf(0, 3), 1);
        check.due("23: out", x.tries(0), -5);
        check.due("23: no cart", x.tries(2), -2);
        check.due("23: no cart -1", x.tries(-1), -2);
        check.due("44: tries", x.status(4), 5);
        check.due("44: scratches", x.status(5), 3);
    }
}
