/** Promises 1 to 8: a new object, and what stands on SHELVES. */
public final class ShelvesTest {
    private static final Check check = new Check();

    public static void main(String[] args) {
        newObject();
        rows();
        elementsBySort();
        copies();
        gatesOnShelves();
        whatGatesSay();
        check.end();
    }

    private static void newObject() {
        check.due("1: NONE", RefusedLast.NONE, -1);
        RefusedLast x = new RefusedLast();
        long[] due = {0, 0, 3, 0, 0, 0, 0, 1, 0, -1, -1, -1, 0, 0, 0, 0, 0};
        for (int what = 0; what < due.length; what++) {
            check.due("1: status(" + what + ")", x.status(what), due[what]);
        }
        for (int s = 0; s < 8; s++) {
            check.due("1: holds(" + s + ")", x.holds(s), -1);
        }
    }

    private static void rows() {
        RefusedLast x = new RefusedLast();
        check.due("2: row of 40", x.row(7, 4, 40), 1);
        check.due("2: row of 0", x.row(0, 0, 0), 1);
        check.due("2: sort", x.holds(7), 4);
        check.due("2: no shelf 8", x.row(8, 0, 1), -2);
        check.due("2: no shelf -1", x.row(-1, 0, 1), -2);
        check.due("2: no sort 5", x.row(1, 5, 1), -2);
        check.due("2: no sort -1", x.row(1, -1, 1), -2);
        check.due("2: not 41", x.row(1, 0, 41), -2);
        check.due("2: not -1", x.row(1, 0, -1), -2);
        check.due("2: nothing came of it", x.holds(1), -1);
        check.due("2: BADs", x.status(12), 6);
        Check.fill(x, 2, 5, 6);
        x.row(2, 3, 2);
        check.due("2: a new row is empty", x.element(2, 1), 0);
        x.gate(0, 0);
        x.show(3, 0);
        check.due("2: in place of a gate", x.row(3, 1, 1), 1);
        check.due("2: it is a row", x.holds(3), 1);
        check.due("3: no element in a row of 0", x.set(0, 0, 1), -2);
    }

    private static void elementsBySort() {
        long v = 0x1234_5678_9ABC_8F81L;
        long[] due = {(byte) 0x81, (short) 0x8F81, 0x9ABC8F81, v, 1};
        RefusedLast x = new RefusedLast();
        for (int sort = 0; sort < 5; sort++) {
            x.row(0, sort, 3);
            check.due("3: sort " + sort, x.set(0, 2, v), 1);
            check.due("3: keeps, sort " + sort, x.element(0, 2), due[sort]);
            check.due("3: no neighbour", x.element(0, 1), 0);
            x.set(0, 2, 256L);
            check.due("3: 256, sort " + sort, x.element(0, 2), sort == 0 ? 0 : sort == 4 ? 1 : 256);
            x.set(0, 2, 0);
            check.due("3: 0, sort " + sort, x.element(0, 2), 0);
        }
        x.row(0, 4, 1);
        x.set(0, 0, 1L << 40);
        check.due("3: so, though its lowest bits are 0", x.element(0, 0), 1);
        check.due("3: no place 1", x.set(0, 1, 1), -2);
        check.due("3: no place -1", x.set(0, -1, 1), -2);
        check.due("3: NOTHING ahead of place", x.set(1, -1, 1), -4);
        check.due("3: no shelf", x.set(8, 0, 1), -2);
        x.gate(0, 0);
        x.show(1, 0);
        check.due("3: OTHER ahead of place", x.set(1, 99, 1), -3);
        check.due("5: none in a gate", x.element(1, 0), 0);
        check.due("5: no shelf", x.element(-1, 0), 0);
        check.due("5: no place", x.element(0, 1), 0);
        check.due("5: nothing is refused", x.status(12) + x.status(13) + x.status(14), 5);
    }

    private static void copies() {
        RefusedLast x = new RefusedLast();
        Check.fill(x, 0, 1, 2, 3, 4, 5);
        check.due("4: over itself", x.copy(0, 0, 0, 1, 4), 4);
        for (int i = 0; i < 5; i++) {
            check.due("4: as they were, " + i, x.element(0, i), i == 0 ? 1 : i);
        }
        check.due("4: and back", x.copy(0, 0, 1, 0, 4), 4);
        check.due("4: last", x.element(0, 4), 4);
        check.due("4: first", x.element(0, 0), 1);
        check.due("4: third", x.element(0, 3), 4);
        x.row(1, 3, 2);
        check.due("4: to another", x.copy(0, 1, 3, 0, 2), 2);
        check.due("4: came", x.element(1, 1), 4);
        check.due("4: none at the end", x.copy(0, 1, 5, 2, 0), 0);
        check.due("4: too many there", x.copy(0, 1, 0, 1, 2), -2);
        check.due("4: too many here", x.copy(1, 0, 1, 0, 2), -2);
        check.due("4: n", x.copy(1, 0, 0, 0, -1), -2);
        check.due("4: i", x.copy(1, 0, -1, 0, 1), -2);
        check.due("4: j", x.copy(1, 0, 0, -1, 1), -2);
        check.due("4: far i", x.copy(1, 0, Integer.MAX_VALUE, 0, 2), -2);
        check.due("4: far j", x.copy(1, 0, 0, Integer.MAX_VALUE, 2), -2);
        check.due("4: far n", x.copy(1, 0, 1, 1, Integer.MAX_VALUE), -2);
        x.row(2, 2, 2);
        check.due("4: two sorts ahead of numbers", x.copy(0, 2, -1, 0, 1), -3);
        check.due("4: nothing", x.copy(0, 3, -1, 0, 1), -4);
        check.due("4: nothing here", x.copy(3, 0, 0, 0, 1), -4);
        x.gate(0, 0);
        x.show(4, 0);
        check.due("4: a gate, ahead of nothing", x.copy(3, 4, 0, 0, 1), -3);
        check.due("4: a gate here", x.copy(4, 3, 0, 0, 1), -3);
        check.due("4: no shelf ahead of a gate", x.copy(4, 8, 0, 0, 1), -2);
        check.due("4: no shelf", x.copy(-1, 4, 0, 0, 1), -2);
    }

    private static void gatesOnShelves() {
        RefusedLast x = Check.yard("gate 1 0; gate 2 0");
        check.due("7: a gate", x.show(0, 1), 1);
        check.due("6: holds it", x.holds(0), 11);
        check.due("7: NONE", x.show(0, -1), 1);
        check.due("6: NOTHING", x.holds(0), -1);
        check.due("7: no gate", x.show(0, 2), -2);
        check.due("7: no gate -2", x.show(0, -2), -2);
        check.due("7: no shelf", x.show(8, 0), -2);
        check.due("6: no shelf 8", x.holds(8), -1);
        check.due("6: no shelf -1", x.holds(-1), -1);
        check.due("6: nothing is refused", x.status(12), 3);
        x.row(0, 2, 0);
        check.due("6: a row", x.holds(0), 2);
        check.due("7: NONE in place of a row", x.show(0, -1), 1);
        check.due("6: NOTHING again", x.holds(0), -1);
    }

    private static void whatGatesSay() {
        RefusedLast x = Check.yard("gate 0 7 knows 1; gate 1 3 knows 2 knows 1; gate 2 4 knows 0 knows 2; gate 3 5 knows 1;"
                + "gate 4 6; gate 5 9 knows 1 knows 1");
        long[][] due = {
            {7, -3, -3, -3, -3, -3}, {3, 2, -3, -3, -3, -3}, {4, 0, 2, -3, -3, -3},
            {5, 1, -3, -1, -3, -3}, {6, -1, -3, -3, -1, -3}, {9, -3, -3, -3, -3, 1}};
        for (int g = 0; g < 6; g++) {
            x.show(g, g);
            for (int kind = 0; kind < 6; kind++) {
                check.due("8: gate " + g + " as kind " + kind, x.says(g, kind), due[g][kind]);
            }
        }
        check.due("8: OTHER so often", x.status(13), 22);
        check.due("8: no kind", x.says(0, 6), -2);
        check.due("8: no kind -1", x.says(6, -1), -2);
        check.due("8: no shelf", x.says(8, 0), -2);
        check.due("8: NOTHING", x.says(6, 0), -4);
        x.row(6, 0, 1);
        check.due("8: a row", x.says(6, 0), -3);
        RefusedLast y = Check.yard("gate 1 0 knows 2 knows 1; gate 2 0; share 1 0; gate 5 4");
        y.show(0, 1);
        check.due("8: SECOND of a shared memory", y.says(0, 2), 1);
        y.show(0, 2);
        check.due("8: to nobody", y.says(0, 5), 0);
    }
}
