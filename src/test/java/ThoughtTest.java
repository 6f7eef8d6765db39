/** Promises 32 to 38: a gate set, a gate known, locks, and rows of colours at a gate. */
public final class ThoughtTest {
    private static final Check check = new Check();

    public static void main(String[] args) {
        gatesAreSet();
        gatesAreKnown();
        locks();
        rowsAreMade();
        streams();
        scratches();
        rowsRefused();
        check.end();
    }

    private static void gatesAreSet() {
        RefusedLast x = Check.yard("gate 0 0 knows 1; gate 1 0 knows 1; gate 2 0 knows 0 knows 1; gate 3 0 knows 0 knows 1;"
                + "gate 4 0 knows 0; gate 5 1");
        long[][] due = {{-1, 0, -1}, {1, 0, 1}, {0, 2, 1}, {0, 2, 1}, {0, 1, 1}, {-1, -1, -1}};
        for (int g = 0; g < 6; g++) {
            for (int c = 0; c < 3; c++) {
                check.due("32: sets(" + g + ", " + c + ")", x.sets(g, c), due[g][c]);
            }
        }
        check.due("32: no gate", x.sets(6, 0), -2);
        check.due("32: no colour", x.sets(0, 3), -2);
        check.due("32: NONE is no colour", x.sets(0, -1), -2);
        check.due("32: NONE isn't refused", x.status(12), 3);
        check.due("32: nothing comes of it", x.gateOf(2, 2), 0);
        RefusedLast y = Check.yard("colours 2; gate 2 0 knows 0 knows 1; gate 0 0; share 1 0");
        check.due("32: open to both, never refusing", y.sets(0, 1), -1);
        check.due("32: FIRST of a shared memory", y.sets(1, 0), 0);
    }

    private static void gatesAreKnown() {
        RefusedLast two = Check.yard("colours 2; gate 0 0; gate 1 0; gate 2 0; gate 3 0; gate 4 0; gate 5 1");
        for (int g = 0; g < 6; g++) {
            check.due("33: of 2 colours, kind " + g, two.know(g), g == 2 ? 2 : -1);
        }
        RefusedLast three = Check.yard("gate 0 0; gate 1 0; gate 2 0; gate 3 0; gate 4 0; gate 5 0");
        for (int g = 0; g < 6; g++) {
            check.due("33: of 3 colours, kind " + g, three.know(g), -1);
        }
        two.tell(2, 1, 0);
        check.due("33: whatever it knows now", two.know(2), 2);
        check.due("33: no gate", two.know(6), -2);
        check.due("33: no gate -1", two.know(-1), -2);
        check.due("33: NONE isn't refused", three.status(12), 0);
    }

    private static void locks() {
        RefusedLast x = new RefusedLast();
        int[] rows = {1, 3, 9, 27, 81, 243, 729};
        for (int m = 0; m <= 6; m++) {
            check.due("34: no gates, " + m, x.lock(m), rows[m]);
        }
        check.due("34: not 7", x.lock(7), -2);
        check.due("34: not -1", x.lock(-1), -2);
        check.due("35: no place in 0", x.key(0, 0), -2);
        check.due("35: not 7", x.key(7, 0), -2);
        check.due("35: not -1", x.key(-1, 0), -2);
        check.due("35: no place 3 of 3", x.key(3, 3), -2);
        check.due("35: no place -1", x.key(3, -1), -2);
        check.due("35: last of 6", x.key(6, 5), 0);
        RefusedLast closed = Check.yard("gate 5 0");
        check.due("34: none of none", closed.lock(0), 1);
        check.due("34: none", closed.lock(1), 0);
        check.due("35: there is none", closed.key(1, 0), -5);
        check.due("35: BAD ahead of none", closed.key(1, 1), -2);
        RefusedLast let = Check.yard("gate 4 0 knows 1 knows 0");
        check.due("34: once", let.lock(1), 1);
        check.due("34: never twice", let.lock(2), 0);
        check.due("35: that one", let.key(1, 0), 1);
        RefusedLast two = Check.yard("gate 2 0 knows 2 knows 1; gate 5 1");
        check.due("34: of two", two.lock(3), 8);
        check.due("35: the lower first", two.key(3, 2), 1);
        RefusedLast both = Check.yard("gate 2 0 knows 2 knows 1; gate 1 0 knows 2");
        check.due("34: both must open", both.lock(6), 1);
        check.due("35: to 2", both.key(6, 3), 2);
        // the first lets in and so closes the second, whose memory it shares
        RefusedLast shared = Check.yard("gate 4 0 knows 1; gate 4 0; share 1 0");
        check.due("34: shared", shared.lock(1), 0);
        RefusedLast opened = Check.yard("gate 4 0 knows 1; gate 3 0; share 1 0");
        check.due("34: opened by the first", opened.lock(1), 1);
        check.due("34: nothing comes of it", opened.gateOf(0, 3), -1);
    }

    private static void rowsAreMade() {
        RefusedLast x = Check.yard("gate 1 0; gate 3 0; gate 4 0 knows 2");
        Check.fill(x, 0, 2, 2, 1, 1, 2, 2);
        check.due("36: LAST lets in", x.makes(0, 6, 0, 0), 0b101010);
        check.due("36: FIRST", x.makes(0, 6, 0, 1), 2);
        check.due("36: SECOND", x.makes(0, 6, 0, 2), 1);
        check.due("36: BUT lets in", x.makes(0, 6, 1, 0), 0b000000);
        check.due("36: BUT of two", x.makes(0, 2, 1, 2), 2);
        check.due("36: LET lets in", x.makes(0, 6, 2, 0), 0b101001);
        check.due("36: one", x.makes(0, 1, 0, 1), 2);
        check.due("36: no SECOND", x.makes(0, 1, 0, 2), -1);
        check.due("36: nothing comes of it", x.gateOf(0, 2), -1);
        Check.fill(x, 1, 0, 0, 0, 0, 0, 0, 0, 0, 0, 0, 0, 0, 0, 0, 0, 0, 0, 0, 0, 0, 0);
        check.due("36: 20", x.makes(1, 20, 0, 0), 0b11111111111111111110);
        check.due("36: not 21", x.makes(1, 21, 0, 0), -2);
        check.due("36: NONE isn't refused", x.status(12), 1);
    }

    private static void streams() {
        RefusedLast x = Check.yard("gate 1 0; gate 4 0; gate 2 0; gate 5 1; gate 0 1; gate 3 0");
        Check.fill(x, 0, 0, 1, 1, 2);
        check.due("37: LAST, let", x.stream(0, 4, 0, 0), 1);
        check.due("37: LAST, rounds", x.stream(0, 4, 0, 1), 1);
        check.due("37: open to all", x.stream(0, 4, 3, 0), 4);
        check.due("37: open to one", x.stream(0, 4, 4, 0), 2);
        check.due("37: one colour", x.stream(0, 1, 0, 0), 1);
        // TWO tried 0 1 2: refused each time, as the two it refused last are the others
        Check.fill(x, 1, 0, 1, 2);
        check.due("37: TWO, let", x.stream(1, 3, 2, 0), 0);
        check.due("37: TWO, rounds", x.stream(1, 3, 2, 1), 1);
        check.due("37: nothing comes of it", x.gateOf(2, 2), -1);
        // LET tried 0 0 1: known (1, 1): 0 refused (0, 1), 0 let in (0, 0), 1 refused (1, 0); then 0 refused, 0 closed
        Check.fill(x, 2, 0, 0, 1);
        check.due("37: LET, let", x.stream(2, 3, 1, 0), 0);
        check.due("37: LET, rounds", x.stream(2, 3, 1, 1), 1);
        // BUT tried 0 1 2 2: (2, 2) 0 refused (0, 2), 1 refused (1, 0), 2 refused (2, 1), 2 refused (2, 2)
        Check.fill(x, 3, 0, 1, 2, 2);
        check.due("37: BUT, let", x.stream(3, 4, 5, 0), 0);
        // BUT tried 2 1 from (1, 2) on: 2 let in, (1, 1), (2, 1), 1 let in, (2, 2), (1, 2)
        Check.fill(x, 4, 2, 1, 1);
        check.due("37: BUT, let in three rounds", x.stream(4, 2, 5, 0), 2);
        check.due("37: BUT, three rounds", x.stream(4, 2, 5, 1), 3);
        check.due("37: BUT, let in two rounds", x.stream(4, 3, 5, 0), 2);
        check.due("37: BUT, two rounds", x.stream(4, 3, 5, 1), 2);
        RefusedLast y = Check.yard("gate 3 0");
        Check.fill(y, 0, 0, 1, 0, 2, 1);
        for (int n = 1; n <= 5; n++) {
            int let = letBehind20(new int[] {0, 1, 0, 2, 1}, n, y.stream(0, n, 0, 1));
            check.due("37: as it is in truth, " + n, y.stream(0, n, 0, 0), let);
        }
        check.due("37: not 21", y.stream(0, 21, 0, 0), -2);
    }

    /** Tries the first n in truth, round for round, by a cart that is painted. */
    private static int letBehind20(int[] row, int n, int rounds) {
        RefusedLast x = Check.yard("gate 3 0; cart 0");
        int let = 0;
        for (int round = 0; round < 20 + rounds; round++) {
            for (int i = 0; i < n; i++) {
                x.paint(0, row[i]);
                x.place(0, 0);
                let += x.tries(0) == 1 && round >= 20 ? 1 : 0;
            }
        }
        return let;
    }

    private static void scratches() {
        RefusedLast x = Check.yard("gate 1 0 knows 1; gate 5 2; gate 0 1; gate 2 0; gate 5 1; gate 3 0");
        Check.fill(x, 0, 0, 0, 1, 2, 1, 2);
        check.due("38: LAST, 0 1 0", x.scratched(0, 3, 0, 0), 1);
        check.due("38: LAST, FIRSTS", x.scratched(0, 3, 0, 1), 1);
        check.due("38: LAST, six", x.scratched(0, 6, 0, 0), 30);
        check.due("38: LAST, six, FIRSTS", x.scratched(0, 6, 0, 1), 7);
        check.due("38: to nobody, six", x.scratched(0, 6, 1, 0), 90);
        check.due("38: it remembers nothing", x.scratched(0, 6, 1, 1), 0);
        check.due("38: to one, others alone", x.scratched(0, 2, 2, 0), 1);
        check.due("38: to one, that one too", x.scratched(0, 3, 2, 0), 0);
        check.due("38: none, no FIRSTS", x.scratched(0, 3, 2, 1), 0);
        // TWO refuses 0 1 2 0 1 2 and its likes alone: all six of three
        check.due("38: TWO, six", x.scratched(0, 6, 3, 0), 6);
        check.due("38: TWO, five", x.scratched(0, 5, 3, 0), 2);
        check.due("38: TWO, five, FIRSTS", x.scratched(0, 5, 3, 1), 3);
        check.due("38: to everybody", x.scratched(0, 1, 4, 0), 0);
        check.due("38: BUT, two alike", x.scratched(0, 2, 5, 0), 1);
        check.due("38: nothing comes of it", x.gateOf(0, 2), 1);
        check.due("38: no 7", x.scratched(0, 7, 0, 0), -2);
    }

    private static void rowsRefused() {
        RefusedLast x = Check.yard("colours 2; gate 1 0");
        x.show(1, 0);
        for (int call = 0; call < 3; call++) {
            String name = new String[] {"36: makes", "37: stream", "38: scratched"}[call];
            int most = call == 2 ? 6 : 20;
            int whats = call == 0 ? 3 : 2;
            Check.fill(x, 2, 0, 1, 2);
            check.due(name + ", no shelf", asked(x, call, 8, 1, 0, 0), -2);
            check.due(name + ", no shelf -1", asked(x, call, -1, 1, 0, 0), -2);
            check.due(name + ", n 0 ahead of OTHER", asked(x, call, 1, 0, 0, 0), -2);
            check.due(name + ", n too large ahead of OTHER", asked(x, call, 1, most + 1, 0, 0), -2);
            check.due(name + ", no gate ahead of OTHER", asked(x, call, 1, 1, 1, 0), -2);
            check.due(name + ", no gate -1", asked(x, call, 2, 1, -1, 0), -2);
            check.due(name + ", no such what ahead of NOTHING", asked(x, call, 0, 1, 0, whats), -2);
            check.due(name + ", no what -1", asked(x, call, 2, 1, 0, -1), -2);
            check.due(name + ", a gate", asked(x, call, 1, most, 0, 0), -3);
            check.due(name + ", nothing", asked(x, call, 0, most, 0, 0), -4);
            check.due(name + ", fewer elements", asked(x, call, 2, 4, 0, 0), -2);
            check.due(name + ", no colour 2", asked(x, call, 2, 3, 0, 0), -2);
            check.due(name + ", the first two are", asked(x, call, 2, 2, 0, 0) >= 0 ? 1 : 0, 1);
            x.set(2, 0, -1);
            check.due(name + ", no colour -1", asked(x, call, 2, 1, 0, 0), -2);
            x.set(2, 0, 1L << 32);
            check.due(name + ", no colour, though its lowest bits are", asked(x, call, 2, 1, 0, 0), -2);
        }
        check.due("44: BADs", x.status(12), 36);
    }

    private static int asked(RefusedLast x, int call, int s, int n, int gate, int what) {
        switch (call) {
            case 0: return x.makes(s, n, gate, what);
            case 1: return x.stream(s, n, gate, what);
            default: return x.scratched(s, n, gate, what);
        }
    }
}
