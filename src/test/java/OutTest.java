/** Promises 28 to 31: all OUT, and the saboteur. */
public final class OutTest {
    private static final Check check = new Check();

    public static void main(String[] args) {
        nothingToDo();
        waysByHand();
        never();
        tooMany();
        foes();
        check.end();
    }

    private static void nothingToDo() {
        RefusedLast x = new RefusedLast();
        check.due("28: no gates", x.out(0), 0);
        check.due("28: no tries", x.out(1), 0);
        check.due("29: no way", x.way(0), -5);
        check.due("29: below 0", x.way(-1), -2);
        check.due("28: no 2", x.out(2), -2);
        check.due("28: no -1", x.out(-1), -2);
        RefusedLast y = Check.yard("gate 5 0; gate 5 0; gate 5 0; cart 0 at 3");
        check.due("28: out already", y.out(0), 0);
        RefusedLast z = Check.yard("gate 5 0");
        check.due("28: no carts", z.out(1), 0);
    }

    private static void way(RefusedLast x, int refusals, int... way) {
        check.due("28: refusals", x.out(0), refusals);
        check.due("28: tries", x.out(1), way.length);
        for (int i = 0; i < way.length; i++) {
            check.due("29: way(" + i + ")", x.way(i), way[i]);
        }
        check.due("29: no more", x.way(way.length), -5);
        check.due("28: nothing comes of it", x.status(4), 0);
    }

    private static void waysByHand() {
        way(Check.yard("gate 5 1; gate 0 1; cart 1; cart 1 at 1"), 0, 0, 0, 1);
        // one of each colour at a gate open to what it last refused: each is refused once
        way(Check.yard("gate 1 0; cart 0; cart 1"), 2, 0, 0, 1, 1);
        // carts of one colour go together
        way(Check.yard("gate 1 0; cart 0; cart 1; cart 0"), 2, 0, 0, 2, 1, 1);
        way(Check.yard("gate 1 0 knows 1; cart 0; cart 1"), 1, 1, 0, 0);
        // open to either of two
        way(Check.yard("gate 2 0; cart 0; cart 1"), 2, 0, 0, 1, 1);
        way(Check.yard("gate 2 0 knows 0 knows 1; cart 0; cart 1; cart 2"), 1, 0, 1, 2, 2);
        // the last but one: refused itself, then once more, then let in
        way(Check.yard("gate 3 0; cart 0"), 2, 0, 0, 0);
        way(Check.yard("gate 3 0; cart 0; cart 1"), 3, 0, 1, 0, 1, 1);
        // never twice to one: another must come between, and there is none
        check.due("28: LET, alone twice", Check.yard("gate 4 0 knows 0 knows 0; cart 0").out(0), -5);
        way(Check.yard("gate 4 0; cart 0; cart 1"), 2, 0, 0, 1, 1);
        // each of three gates must be refused by each colour, the colours going one after the other
        way(Check.yard("gate 1 0; gate 1 0; gate 1 0; cart 1; cart 2; cart 0"), 9,
                0, 0, 0, 0, 0, 0, 1, 1, 1, 1, 1, 1, 2, 2, 2, 2, 2, 2);
        check.due("28: LET to two of one colour", Check.yard("gate 4 0; cart 0; cart 0").out(0), -5);
        way(Check.yard("gate 4 0; cart 0; cart 1; cart 0"), 3, 0, 0, 1, 1, 2, 2);
        // a memory shared: refused at the first, let in at both
        way(Check.yard("gate 1 0; gate 1 0; share 1 0; cart 2"), 1, 0, 0, 0);
        way(Check.yard("gate 1 0; gate 1 0; cart 2"), 2, 0, 0, 0, 0);
    }

    private static void never() {
        RefusedLast x = Check.yard("colours 2; gate 0 0; cart 1");
        check.due("28: never", x.out(0), -5);
        check.due("28: BAD ahead of never", x.out(2), -2);
        check.due("29: never", x.way(0), -5);
        check.due("29: BAD ahead of never", x.way(-1), -2);
        check.due("31: never as it is", x.harm(0, 0), -5);
        check.due("31: BAD ahead of never", x.harm(0, 2), -2);
        check.due("30: never by the first try", x.foe(), 0);
        check.due("44: STUCKs", x.status(15), 3);
    }

    private static void tooMany() {
        RefusedLast x = Check.yard("gate 5 1; gate 5 1; gate 5 1; gate 5 1; cart 0");
        check.due("28: 4 gates", x.out(0), -5);
        check.due("29: 4 gates", x.way(0), -5);
        check.due("30: 4 gates", x.foe(), -5);
        check.due("31: 4 gates", x.harm(0, 0), -5);
        check.due("31: BAD ahead of 4 gates", x.harm(4, 0), -2);
        RefusedLast y = Check.yard("gate 5 1; cart 0; cart 0; cart 0; cart 0");
        check.due("28: 4 carts", y.out(0), -5);
        check.due("29: 4 carts", y.way(0), -5);
        check.due("30: 4 carts", y.foe(), -5);
        check.due("31: 4 carts", y.harm(0, 0), -5);
    }

    private static void foes() {
        check.due("30: no gates", new RefusedLast().foe(), -1);
        RefusedLast noGates = Check.yard("cart 0; cart 0; cart 0; cart 0");
        check.due("30: no gates, 4 carts", noGates.foe(), -1);
        check.due("30: that isn't refused", noGates.status(15), 0);
        check.due("28: no gates, 4 carts", noGates.out(0), -5);
        RefusedLast x = Check.yard("gate 5 1; gate 1 0 knows 2; cart 2");
        check.due("30: a refused colour at gate 1", x.foe(), 10);
        check.due("31: one more", x.harm(1, 0), 1);
        check.due("31: none more", x.harm(1, 2), 0);
        check.due("31: none at gate 0", x.harm(0, 0), 0);
        check.due("31: no gate", x.harm(2, 0), -2);
        check.due("31: no colour", x.harm(0, 3), -2);
        check.due("31: no colour -1", x.harm(0, -1), -2);
        check.due("30: nothing comes of it", x.gateOf(1, 2), 2);
        RefusedLast fewer = Check.yard("gate 1 0; cart 1");
        check.due("31: one fewer", fewer.harm(0, 1), -1);
        check.due("30: the first of those that do nothing", fewer.foe(), 0);
        RefusedLast carts = Check.yard("gate 5 1; gate 0 0");
        check.due("30: no carts, the first", carts.foe(), 0);
        check.due("30: no third of two colours", Check.yard("colours 2; gate 2 0 knows 0 knows 1; cart 0; cart 1").foe(), 0);
        RefusedLast never = Check.yard("gate 4 0 knows 0 knows 1; cart 0");
        check.due("28: let in at once", never.out(0), 0);
        check.due("31: never then", never.harm(0, 0), 99);
        check.due("31: refused, then it is let in", never.harm(0, 1), 1);
        check.due("30: never is ahead of others", never.foe(), 0);
        RefusedLast later = Check.yard("gate 4 0 knows 2 knows 1; cart 2");
        check.due("30: never though later than others", later.foe(), 2);
    }
}
