/** Promises 39 to 44: tries by draws, all that is kept, and how things stand. */
public final class DrawsTest {
    private static final Check check = new Check();

    public static void main(String[] args) {
        draws();
        homes();
        seeds();
        images();
        statuses();
        check.end();
    }

    private static void draws() {
        RefusedLast x = Check.yard("gate 5 1; cart 0; cart 1; cart 2");
        // 1103527590 >>> 16 is 16838, 16838 % 3 is 2; the next draw is below 2: 5758 % 2 is 0
        check.due("39: one", x.drive(1), 1);
        check.due("39: seed", x.status(7), 1103527590);
        check.due("39: the third", x.status(3), 4);
        x.drive(1);
        check.due("39: wrapping", x.status(7), -1 + 1 + (int) (1103527590L * 1103515245L + 12345L));
        int next = (x.status(7) >>> 16) % 2;
        check.due("39: of the two left", x.status(3), 4 | 1 << next);
        check.due("39: till all are out", x.drive(40), 1);
        check.due("39: three tries", x.status(4), 3);
        int seed = x.status(7);
        check.due("39: none left", x.drive(1), 0);
        check.due("39: no draw then", x.status(7), seed);
        check.due("39: not 0", x.drive(0), -2);
        check.due("39: not 41", x.drive(41), -2);
        check.due("39: not -1", x.drive(-1), -2);
        RefusedLast y = Check.yard("gate 5 0; cart 1");
        check.due("39: never let in", y.drive(40), 0);
        check.due("39: 40 tries", y.status(4), 40);
        check.due("39: 40 scratches", y.gateOf(0, 5), 40);
    }

    private static void homes() {
        RefusedLast x = Check.yard("gate 1 0; gate 1 0; cart 0 at 2; cart 1 at 1; cart 1 at 2");
        check.due("40: two were out", x.home(), 2);
        for (int k = 0; k < 3; k++) {
            check.due("40: at 0", x.cartOf(k, 1), 0);
        }
        check.due("40: none was out", x.home(), 0);
        RefusedLast y = new RefusedLast();
        check.due("40: no carts", y.home(), 0);
        y.cart(0);
        check.due("40: out with no gates", y.home(), 1);
        check.due("40: and still", y.status(3), 1);
    }

    private static void seeds() {
        RefusedLast x = new RefusedLast();
        check.due("41: 1 at first", x.seed(Integer.MIN_VALUE), 1);
        check.due("41: then", x.seed(-7), Integer.MIN_VALUE);
        check.due("44: seed", x.status(7), -7);
        Check.read(x, "gate 5 1; cart 0; cart 0; cart 0");
        x.drive(1);
        int seed = -7 * 1103515245 + 12345;
        check.due("41: no sign", x.status(3), 1 << (seed >>> 16) % 3);
    }

    private static void images() {
        RefusedLast x = new RefusedLast();
        check.due("43: nothing was", x.back(), -5);
        check.due("42: image", x.image(), 1);
        x.colours(2);
        Check.read(x, "gate 1 3 knows 1; gate 2 4; share 1 0; cart 1");
        x.tries(0);
        check.due("43: back to none", x.back(), 1);
        check.due("43: colours", x.status(2), 3);
        check.due("43: gates", x.status(0), 0);
        check.due("43: carts", x.status(1), 0);
        check.due("43: tries", x.status(4), 0);
        check.due("44: STUCK stays", x.status(15), 1);
        Check.read(x, "gate 1 3 knows 2 knows 0; gate 2 4; share 1 0; gate 1 0; cart 1 at 1; cart 0");
        x.tries(1);
        x.seed(5);
        x.image();
        x.show(0, 0);
        x.show(1, 2);
        x.row(2, 2, 1);
        x.set(2, 0, 9);
        x.gate(0, 0);
        x.show(3, 3);
        x.feed(65);
        x.share(1, -1);
        x.tell(0, -1, -1);
        x.place(0, 4);
        x.paint(0, 2);
        x.drive(9);
        x.set(2, 1, 1);
        check.due("43: back", x.back(), 1);
        long[] gate = {1, 3, 0, 2, 0, 1};
        for (int what = 0; what < 6; what++) {
            check.due("43: gateOf(0, " + what + ")", x.gateOf(0, what), gate[what]);
        }
        check.due("43: shared again", x.gateOf(1, 4), 0);
        check.due("43: colour", x.cartOf(0, 0), 1);
        check.due("43: place", x.cartOf(0, 1), 1);
        check.due("43: tries", x.status(4), 1);
        check.due("43: scratches", x.status(5), 1);
        check.due("43: seed", x.status(7), 5);
        check.due("43: the tape stays", x.status(6), 1);
        check.due("43: refusals stay", x.status(12), 1);
        check.due("43: a gate's shelf", x.holds(0), 10);
        check.due("43: another's", x.holds(1), 12);
        check.due("43: a row's", x.holds(2), 2);
        check.due("43: its element", x.element(2, 0), 9);
        check.due("43: no such gate any more", x.holds(3), -1);
        x.gate(0, 0);
        check.due("43: nor when there is one again", x.holds(3), -1);
        check.due("43: it says what it knows", x.says(0, 1), 0);
        check.due("43: a new gate's scratches", x.gateOf(3, 5), 0);
        check.due("43: a new gate's memory", x.gateOf(3, 2), -1);
        x.tries(1);
        check.due("43: back once more", x.back(), 1);
        check.due("43: the image was left as it was", x.status(4), 1);
        x.image();
        Check.read(x, "cart 0 at 2; gate 1 0; cart 0 at 3");
        x.tell(3, 2, 1);
        x.tries(3);
        x.back();
        check.due("42: the newest image", x.status(1), 2);
        x.cart(0);
        x.cart(2);
        x.gate(1, 0);
        check.due("43: a new cart stands at 0", x.cartOf(2, 1), 0);
        check.due("43: and another", x.cartOf(3, 1), 0);
        check.due("43: a new gate knows nothing", x.gateOf(3, 2), -1);
        check.due("43: and has no scratches", x.gateOf(3, 5), 0);
    }

    private static void statuses() {
        RefusedLast x = Check.yard("colours 2; gate 5 1; gate 5 0; cart 0; cart 1 at 2; cart 0 at 2");
        x.tries(0);
        x.tries(0);
        x.feed(66);
        x.row(0, 0, 0);
        x.show(7, 1);
        x.seed(77);
        long[] due = {2, 3, 2, 6, 2, 1, 1, 77, 2, -1, -1, -1, 0, 0, 0, 0, 0, -1};
        for (int what = 0; what < due.length; what++) {
            check.due("44: status(" + what + ")", x.status(what), due[what]);
        }
        check.due("44: -1", x.status(-1), -1);
        check.due("44: far", x.status(Integer.MAX_VALUE), -1);
        check.due("44: NONE isn't refused", x.status(12), 0);
        x.gate(9, 0);
        x.set(7, 0, 0);
        x.set(1, 0, 0);
        x.tries(1);
        for (int i = 2; i < 7; i++) {
            x.gate(0, 0);
        }
        for (int what = 12; what <= 16; what++) {
            check.due("44: status(" + what + ")", x.status(what), 1);
        }
    }
}
