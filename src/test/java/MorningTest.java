/** Promises 24 to 27: told mornings. */
public final class MorningTest {
    private static final Check check = new Check();

    public static void main(String[] args) {
        rightAndWrong();
        refused();
        stuckOnes();
        inTruth();
        check.end();
    }

    private static void rightAndWrong() {
        RefusedLast x = Check.yard("gate 1 0; gate 5 1; cart 0; cart 2");
        Check.fill(x, 0, 0, 1, 1, 2);
        check.due("24: none told", x.judge(0, 0), -1);
        check.due("24: right", x.judge(0, 4), -1);
        check.due("24: nothing comes of it", x.status(4), 0);
        x.set(0, 3, 3);
        check.due("24: let in though it wasn't", x.judge(0, 4), 3);
        check.due("24: three of them are right", x.judge(0, 3), -1);
        x.set(0, 3, 1);
        check.due("24: one that is out", x.judge(0, 4), 3);
        x.set(0, 3, 4);
        check.due("24: no such cart", x.judge(0, 4), 3);
        x.set(0, 1, -1);
        check.due("24: no cart below 0", x.judge(0, 4), 1);
        x.set(0, 0, Long.MAX_VALUE);
        check.due("24: no cart far off", x.judge(0, 4), 0);
        x.set(0, 0, 1L << 33);
        check.due("24: no cart, though its lowest bits are", x.judge(0, 4), 0);
        x.set(0, 0, Long.MIN_VALUE);
        check.due("24: no cart far below", x.judge(0, 4), 0);
        x.row(1, 4, 3);
        x.set(1, 1, 1);
        x.set(1, 2, 1);
        check.due("24: a row of booleans", x.judge(1, 3), -1);
        check.due("26: place behind it", x.behind(1, 2, 0), 1);
        check.due("26: place behind all", x.behind(1, 3, 0), 2);
        check.due("26: of the other", x.behind(1, 3, 1), 0);
        check.due("26: behind none", x.behind(1, 0, 0), 0);
        check.due("26: nothing comes of it", x.cartOf(0, 1), 0);
        check.due("26: wrong", x.behind(0, 4, 0), -5);
        check.due("25: wrong", x.morning(0, 4), -5);
        RefusedLast y = new RefusedLast();
        y.cart(0);
        y.row(0, 0, 1);
        check.due("24: out with no gates", y.judge(0, 1), 0);
    }

    private static void refused() {
        RefusedLast x = Check.yard("gate 1 0; cart 0");
        x.show(1, 0);
        x.row(2, 0, 3);
        for (int call = 0; call < 4; call++) {
            String name = new String[] {"24: judge", "25: morning", "26: behind", "27: stuck"}[call];
            check.due(name + ", no shelf", told(x, call, 8, 0), -2);
            check.due(name + ", no shelf -1", told(x, call, -1, 0), -2);
            check.due(name + ", n 41 ahead of OTHER", told(x, call, 1, 41), -2);
            check.due(name + ", n -1 ahead of NOTHING", told(x, call, 0, -1), -2);
            check.due(name + ", a gate", told(x, call, 1, 40), -3);
            check.due(name + ", nothing", told(x, call, 0, 40), -4);
            check.due(name + ", fewer elements", told(x, call, 2, 4), -2);
        }
        check.due("26: no cart ahead of OTHER", x.behind(1, 0, 1), -2);
        check.due("26: no cart -1", x.behind(2, 0, -1), -2);
        check.due("44: BADs", x.status(12), 22);
        check.due("44: OTHERs", x.status(13), 4);
        check.due("44: NOTHINGs", x.status(14), 4);
    }

    private static int told(RefusedLast x, int call, int s, int n) {
        switch (call) {
            case 0: return x.judge(s, n);
            case 1: return x.morning(s, n);
            case 2: return x.behind(s, n, 0);
            default: return x.stuck(s, n);
        }
    }

    private static void stuckOnes() {
        RefusedLast x = Check.yard("gate 5 1; gate 5 1; gate 5 4; cart 0");
        Check.fill(x, 0, 1, 1, 0, 0, 0);
        check.due("27: only the third, as it is", x.stuck(0, 5), 4);
        check.due("27: of two tries the third still", x.stuck(0, 2), 4);
        check.due("27: of none all", x.stuck(0, 0), 7);
        Check.fill(x, 1, 1, 0);
        check.due("27: the second would", x.stuck(1, 2), 2);
        check.due("24: but as it is it's wrong", x.judge(1, 2), 1);
        Check.fill(x, 2, 0, 1);
        check.due("27: none", x.stuck(2, 2), 0);
        check.due("27: nothing comes of it", x.gateOf(1, 0), 5);
        check.due("27: nor of a", x.gateOf(1, 1), 1);
        RefusedLast y = new RefusedLast();
        y.row(0, 0, 0);
        check.due("27: no gates", y.stuck(0, 0), 0);
        // a gate that remembers for another is thought stuck: then it remembers nothing
        RefusedLast z = Check.yard("gate 1 0; gate 1 0; share 1 0; cart 2; cart 2 at 1");
        Check.fill(z, 0, 0, 2);
        check.due("27: by a shared memory", z.stuck(0, 2), 3);
        check.due("24: as it is the second is let in", z.judge(0, 2), 1);
    }

    private static void inTruth() {
        RefusedLast x = Check.yard("gate 1 0; gate 2 0; cart 0; cart 1");
        Check.fill(x, 0, 0, 2, 0, 1, 2, 3, 2);
        check.due("25: refusals", x.morning(0, 7), 5);
        check.due("25: tries", x.status(4), 7);
        check.due("25: scratches of 0", x.gateOf(0, 5), 4);
        check.due("25: scratches of 1", x.gateOf(1, 5), 1);
        check.due("25: place", x.cartOf(1, 1), 1);
        check.due("25: none more", x.morning(0, 0), 0);
        Check.fill(x, 0, 3, 1);
        check.due("25: a wrong one", x.morning(0, 2), -5);
        check.due("25: nothing comes of it", x.status(4), 7);
        x.set(0, 1, 0);
        check.due("25: only its own refusals", x.morning(0, 2), 1);
        check.due("25: place behind", x.cartOf(1, 2), 1);
    }
}
