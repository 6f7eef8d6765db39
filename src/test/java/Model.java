import java.util.ArrayList;
import java.util.Arrays;
import java.util.HashSet;
import java.util.List;
import java.util.PriorityQueue;
import java.util.Set;

/**
 * The document once more, written as slowly and as unlike RefusedLast as can be (objects for gates and memories,
 * all words, all permutations, all costs), to be compared with it. Answers of calls only; no care for speed.
 */
public final class Model {
    static final class Memory {
        int first = -1;
        int second = -1;
    }

    static final class Gate {
        int kind;
        int a;
        int scratches;
        Memory own = new Memory();
        Memory used = own;
    }

    static final class Cart {
        int colour;
        int place;
    }

    static final class State {
        int colours = 3;
        List<Gate> gates = new ArrayList<>();
        List<Cart> carts = new ArrayList<>();
        int tries;
        int seed = 1;

        State copy() {
            State s = new State();
            s.colours = colours;
            s.tries = tries;
            s.seed = seed;
            for (Gate g : gates) {
                Gate h = new Gate();
                h.kind = g.kind;
                h.a = g.a;
                h.scratches = g.scratches;
                h.own.first = g.own.first;
                h.own.second = g.own.second;
                s.gates.add(h);
            }
            for (int i = 0; i < gates.size(); i++) {
                s.gates.get(i).used = s.gates.get(ownerOf(i)).own;
            }
            for (Cart c : carts) {
                Cart d = new Cart();
                d.colour = c.colour;
                d.place = c.place;
                s.carts.add(d);
            }
            return s;
        }

        int ownerOf(int g) {
            for (int i = 0; i < gates.size(); i++) {
                if (gates.get(i).own == gates.get(g).used) {
                    return i;
                }
            }
            throw new IllegalStateException();
        }

        boolean othersUse(int g) {
            for (int i = 0; i < gates.size(); i++) {
                if (i != g && gates.get(i).used == gates.get(g).own) {
                    return true;
                }
            }
            return false;
        }

        boolean isOut(int k) {
            return carts.get(k).place == gates.size();
        }

        boolean at(int g, int c) {
            Gate gate = gates.get(g);
            Memory m = gate.used;
            boolean in = false;
            if (gate.kind == 0) {
                return gate.a % colours == c;
            }
            if (gate.kind == 5) {
                return gate.a % 2 != 0;
            }
            if (gate.kind == 4) {
                if (m.first == c && m.second != c) {
                    m.second = c;
                    return true;
                }
                m.first = c;
                return false;
            }
            if (gate.kind == 1 || gate.kind == 2) {
                in = m.first == c;
            }
            if (gate.kind == 2 || gate.kind == 3) {
                in = in || m.second == c;
            }
            if (!in) {
                m.second = m.first;
                m.first = c;
            }
            return in;
        }

        boolean tryCart(int k) {
            Cart cart = carts.get(k);
            tries++;
            if (at(cart.place, cart.colour)) {
                cart.place++;
                return true;
            }
            gates.get(cart.place).scratches++;
            return false;
        }

        String key() {
            StringBuilder b = new StringBuilder();
            for (Gate g : gates) {
                b.append(g.own.first).append(',').append(g.own.second).append(';');
            }
            for (Cart c : carts) {
                b.append(c.place).append(' ');
            }
            return b.toString();
        }

        int scratches() {
            int sum = 0;
            for (Gate g : gates) {
                sum += g.scratches;
            }
            return sum;
        }

        boolean allOut() {
            for (int k = 0; k < carts.size(); k++) {
                if (!isOut(k)) {
                    return false;
                }
            }
            return true;
        }
    }

    /** What a SHELF holds: a GATE's number, or a ROW. */
    static final class Thing {
        int gate = -1;
        int sort = -1;
        long[] row;
    }

    private State now = new State();
    private State kept;
    private final Thing[] shelves = new Thing[8];
    private final StringBuilder tape = new StringBuilder();
    private final int[] refused = new int[7];

    private int no(int why) {
        refused[-why]++;
        return why;
    }

    private boolean shelf(int s) {
        return s >= 0 && s < 8;
    }

    private boolean gateThere(int g) {
        return g >= 0 && g < now.gates.size();
    }

    private boolean cartThere(int k) {
        return k >= 0 && k < now.carts.size();
    }

    private boolean colourThere(long c) {
        return c >= 0 && c < now.colours;
    }

    public int row(int s, int sort, int n) {
        if (!shelf(s) || sort < 0 || sort > 4 || n < 0 || n > 40) {
            return no(-2);
        }
        shelves[s] = new Thing();
        shelves[s].sort = sort;
        shelves[s].row = new long[n];
        return 1;
    }

    private int needRow(int s) {
        if (shelves[s] == null) {
            return -4;
        }
        return shelves[s].row == null ? -3 : 0;
    }

    public int set(int s, int i, long v) {
        if (!shelf(s)) {
            return no(-2);
        }
        if (needRow(s) != 0) {
            return no(needRow(s));
        }
        long[] row = shelves[s].row;
        if (i < 0 || i >= row.length) {
            return no(-2);
        }
        int sort = shelves[s].sort;
        row[i] = sort == 0 ? (byte) v : sort == 1 ? (short) v : sort == 2 ? (int) v : sort == 3 ? v : v == 0 ? 0 : 1;
        return 1;
    }

    public int copy(int p, int q, int i, int j, int n) {
        if (!shelf(p) || !shelf(q)) {
            return no(-2);
        }
        Thing a = shelves[p];
        Thing b = shelves[q];
        if (a != null && a.row == null || b != null && b.row == null || a != null && b != null && a.sort != b.sort) {
            return no(-3);
        }
        if (a == null || b == null) {
            return no(-4);
        }
        if (i < 0 || j < 0 || n < 0 || (long) i + n > a.row.length || (long) j + n > b.row.length) {
            return no(-2);
        }
        long[] was = a.row.clone();
        for (int k = 0; k < n; k++) {
            b.row[j + k] = was[i + k];
        }
        return n;
    }

    public long element(int s, int i) {
        if (!shelf(s) || needRow(s) != 0 || i < 0 || i >= shelves[s].row.length) {
            return 0;
        }
        return shelves[s].row[i];
    }

    public int holds(int s) {
        if (!shelf(s) || shelves[s] == null) {
            return -1;
        }
        return shelves[s].row != null ? shelves[s].sort : 10 + shelves[s].gate;
    }

    public int show(int s, int gate) {
        if (!shelf(s) || gate != -1 && !gateThere(gate)) {
            return no(-2);
        }
        shelves[s] = null;
        if (gate != -1) {
            shelves[s] = new Thing();
            shelves[s].gate = gate;
        }
        return 1;
    }

    public int says(int s, int kind) {
        if (!shelf(s) || kind < 0 || kind > 5) {
            return no(-2);
        }
        if (shelves[s] == null) {
            return no(-4);
        }
        if (shelves[s].row != null) {
            return no(-3);
        }
        Gate g = now.gates.get(shelves[s].gate);
        int[] above = {-1, 0, 1, 1, 1, 0};
        int k = g.kind;
        while (k != -1 && k != kind) {
            k = above[k];
        }
        if (k == -1) {
            return no(-3);
        }
        int[] says = {g.a, g.used.first, g.used.second, g.used.second, g.used.second, g.a % 2};
        return says[kind];
    }

    public int colours(int n) {
        if (n != 2 && n != 3) {
            return no(-2);
        }
        if (!now.gates.isEmpty() || !now.carts.isEmpty()) {
            return no(-5);
        }
        int was = now.colours;
        now.colours = n;
        return was;
    }

    public int gate(int kind, int a) {
        if (kind < 0 || kind > 5 || a < 0 || a > 9) {
            return no(-2);
        }
        if (now.gates.size() == 6) {
            return no(-6);
        }
        return newGate(now, kind, a);
    }

    private static int newGate(State s, int kind, int a) {
        Gate g = new Gate();
        g.kind = kind;
        g.a = a;
        s.gates.add(g);
        return s.gates.size() - 1;
    }

    public int cart(int colour) {
        if (!colourThere(colour)) {
            return no(-2);
        }
        if (now.carts.size() == 6) {
            return no(-6);
        }
        Cart c = new Cart();
        c.colour = colour;
        now.carts.add(c);
        return now.carts.size() - 1;
    }

    public int place(int cart, int v) {
        if (!cartThere(cart) || v < 0 || v > now.gates.size()) {
            return no(-2);
        }
        int was = now.carts.get(cart).place;
        now.carts.get(cart).place = v;
        return was;
    }

    public int paint(int cart, int colour) {
        if (!cartThere(cart) || !colourThere(colour)) {
            return no(-2);
        }
        int was = now.carts.get(cart).colour;
        now.carts.get(cart).colour = colour;
        return was;
    }

    public int tell(int gate, int first, int second) {
        if (!gateThere(gate) || first != -1 && !colourThere(first) || second != -1 && !colourThere(second)) {
            return no(-2);
        }
        now.gates.get(gate).used.first = first;
        now.gates.get(gate).used.second = second;
        return 1;
    }

    public int share(int gate, int other) {
        if (!gateThere(gate) || other != -1 && !gateThere(other) || other >= gate) {
            return no(-2);
        }
        Memory m = now.gates.get(other == -1 ? gate : other).own;
        if (now.gates.get(gate).used == m) {
            return 0;
        }
        if (other != -1 && now.gates.get(other).used != m) {
            return no(-5);
        }
        if (other != -1 && now.othersUse(gate)) {
            return no(-5);
        }
        now.gates.get(gate).used = m;
        return 1;
    }

    public int feed(int letter) {
        if (letter < 0 || letter > 255) {
            return no(-2);
        }
        if (tape.length() == 250) {
            return no(-6);
        }
        tape.append((char) letter);
        return tape.length();
    }

    public int wipe() {
        int was = tape.length();
        tape.setLength(0);
        return was;
    }

    /** A text cut into all its tokens first, then read; the fault is thrown. */
    static final class Reading {
        static final class Fault extends RuntimeException {
            private static final long serialVersionUID = 1L;
            final int place;

            Fault(int place) {
                this.place = place;
            }
        }

        final List<String> tokens = new ArrayList<>();
        final List<Integer> places = new ArrayList<>();
        int at = 0;
        State s;

        Reading(String text, State s) {
            this.s = s;
            java.util.regex.Matcher m = java.util.regex.Pattern.compile("[a-z]+|[0-9]+|[^ ]", java.util.regex.Pattern.DOTALL)
                    .matcher(text);
            while (m.find()) {
                tokens.add(m.group());
                places.add(m.start());
            }
            tokens.add("");
            places.add(text.length());
        }

        Fault fault() {
            return new Fault(places.get(at));
        }

        boolean sees(String token) {
            return tokens.get(at).equals(token);
        }

        int number(int most) {
            String t = tokens.get(at);
            if (!t.matches("[0-9]{1,2}") || Integer.parseInt(t) > most) {
                throw fault();
            }
            at++;
            return Integer.parseInt(t);
        }

        int all() {
            for (int n = 1;; n++) {
                statement();
                if (sees("")) {
                    return n;
                }
                if (!sees(";")) {
                    throw fault();
                }
                at++;
            }
        }

        void statement() {
            switch (tokens.get(at)) {
                case "colours": {
                    if (s.gates.size() + s.carts.size() > 0) {
                        throw fault();
                    }
                    at++;
                    int n = number(3);
                    if (n < 2) {
                        at--;
                        throw fault();
                    }
                    s.colours = n;
                    return;
                }
                case "gate": {
                    if (s.gates.size() > 5) {
                        throw fault();
                    }
                    at++;
                    int kind = number(5);
                    Gate g = s.gates.get(newGate(s, kind, number(9)));
                    if (sees("knows")) {
                        at++;
                        g.own.first = number(s.colours - 1);
                        if (sees("knows")) {
                            at++;
                            g.own.second = number(s.colours - 1);
                        }
                    }
                    return;
                }
                case "cart": {
                    if (s.carts.size() > 5) {
                        throw fault();
                    }
                    at++;
                    Cart c = new Cart();
                    c.colour = number(s.colours - 1);
                    if (sees("at")) {
                        at++;
                        c.place = number(s.gates.size());
                    }
                    s.carts.add(c);
                    return;
                }
                case "share": {
                    at++;
                    int g = number(s.gates.size() - 1);
                    int h = number(g - 1);
                    if (s.ownerOf(h) != h || s.othersUse(g)) {
                        at--;
                        throw fault();
                    }
                    s.gates.get(g).used = s.gates.get(h).own;
                    return;
                }
                case "forget": {
                    at++;
                    Memory m = s.gates.get(number(s.gates.size() - 1)).used;
                    m.first = -1;
                    m.second = -1;
                    return;
                }
                default:
                    throw fault();
            }
        }
    }

    public int yard() {
        State draft = now.copy();
        String text = tape.toString();
        tape.setLength(0);
        try {
            int n = new Reading(text, draft).all();
            now = draft;
            return n;
        } catch (Reading.Fault f) {
            no(-2);
            return -20 - f.place;
        }
    }

    public int gateOf(int gate, int what) {
        if (!gateThere(gate) || what < 0 || what > 5) {
            return no(-2);
        }
        Gate g = now.gates.get(gate);
        return new int[] {g.kind, g.a, g.used.first, g.used.second, now.ownerOf(gate), g.scratches}[what];
    }

    public int cartOf(int cart, int what) {
        if (!cartThere(cart) || what < 0 || what > 2) {
            return no(-2);
        }
        Cart c = now.carts.get(cart);
        return new int[] {c.colour, c.place, now.isOut(cart) ? 1 : 0}[what];
    }

    public int opens(int gate) {
        if (!gateThere(gate)) {
            return no(-2);
        }
        int bits = 0;
        for (int c = 0; c < now.colours; c++) {
            bits += now.copy().at(gate, c) ? 1 << c : 0;
        }
        return bits;
    }

    public int ready() {
        int bits = 0;
        for (int k = 0; k < now.carts.size(); k++) {
            bits += !now.isOut(k) && now.copy().tryCart(k) ? 1 << k : 0;
        }
        return bits;
    }

    public int tries(int cart) {
        if (!cartThere(cart)) {
            return no(-2);
        }
        if (now.isOut(cart)) {
            return no(-5);
        }
        return now.tryCart(cart) ? 1 : 0;
    }

    private int needMorning(int s, int n, boolean more) {
        if (!shelf(s) || n < 0 || n > 40 || !more) {
            return -2;
        }
        if (needRow(s) != 0) {
            return needRow(s);
        }
        return shelves[s].row.length < n ? -2 : 0;
    }

    private int wrong(State s, int shelf, int n) {
        for (int i = 0; i < n; i++) {
            long t = shelves[shelf].row[i];
            long cart = Math.floorDiv(t, 2L);
            if (cart < 0 || cart >= s.carts.size() || s.isOut((int) cart)
                    || s.tryCart((int) cart) != (Math.floorMod(t, 2L) == 1)) {
                return i;
            }
        }
        return -1;
    }

    public int judge(int s, int n) {
        int no = needMorning(s, n, true);
        return no != 0 ? no(no) : wrong(now.copy(), s, n);
    }

    public int morning(int s, int n) {
        int no = needMorning(s, n, true);
        if (no != 0) {
            return no(no);
        }
        if (wrong(now.copy(), s, n) != -1) {
            return no(-5);
        }
        int refusals = 0;
        for (int i = 0; i < n; i++) {
            refusals += now.tryCart((int) (shelves[s].row[i] / 2)) ? 0 : 1;
        }
        return refusals;
    }

    public int behind(int s, int n, int cart) {
        int no = needMorning(s, n, cartThere(cart));
        if (no != 0) {
            return no(no);
        }
        State then = now.copy();
        return wrong(then, s, n) != -1 ? no(-5) : then.carts.get(cart).place;
    }

    public int stuck(int s, int n) {
        int no = needMorning(s, n, true);
        if (no != 0) {
            return no(no);
        }
        int bits = 0;
        for (int g = 0; g < now.gates.size(); g++) {
            State then = now.copy();
            then.gates.get(g).kind = 5;
            then.gates.get(g).a = 2;
            bits += wrong(then, s, n) == -1 ? 1 << g : 0;
        }
        return bits;
    }

    private boolean tooMany() {
        return now.gates.size() > 3 || now.carts.size() > 3;
    }

    static final class Node {
        State state;
        int refusals;
        String way;
    }

    /** The best node by refusals, then tries, then the way's carts; null: never. */
    private static Node best(State from) {
        PriorityQueue<Node> queue = new PriorityQueue<>((a, b) -> a.refusals != b.refusals
                ? Integer.compare(a.refusals, b.refusals)
                : a.way.length() != b.way.length() ? Integer.compare(a.way.length(), b.way.length()) : a.way.compareTo(b.way));
        Set<String> done = new HashSet<>();
        Node start = new Node();
        start.state = from.copy();
        start.way = "";
        queue.add(start);
        while (!queue.isEmpty()) {
            Node n = queue.poll();
            if (!done.add(n.state.key())) {
                continue;
            }
            if (n.state.allOut()) {
                return n;
            }
            for (int k = 0; k < n.state.carts.size(); k++) {
                if (!n.state.isOut(k)) {
                    Node m = new Node();
                    m.state = n.state.copy();
                    m.refusals = n.refusals + (m.state.tryCart(k) ? 0 : 1);
                    m.way = n.way + k;
                    queue.add(m);
                }
            }
        }
        return null;
    }

    public int out(int what) {
        if (what < 0 || what > 1) {
            return no(-2);
        }
        Node n = tooMany() ? null : best(now);
        if (n == null) {
            return no(-5);
        }
        return what == 0 ? n.refusals : n.way.length();
    }

    public int way(int i) {
        if (i < 0) {
            return no(-2);
        }
        Node n = tooMany() ? null : best(now);
        return n == null || i >= n.way.length() ? no(-5) : n.way.charAt(i) - '0';
    }

    private Node behindFoe(int g, int c) {
        State s = now.copy();
        s.at(g, c);
        return best(s);
    }

    public int foe() {
        if (now.gates.isEmpty()) {
            return -1;
        }
        if (tooMany()) {
            return no(-5);
        }
        int foe = -1;
        int most = -1;
        for (int g = 0; g < now.gates.size(); g++) {
            for (int c = 0; c < now.colours; c++) {
                Node n = behindFoe(g, c);
                int refusals = n == null ? Integer.MAX_VALUE : n.refusals;
                if (refusals > most) {
                    most = refusals;
                    foe = 10 * g + c;
                }
            }
        }
        return foe;
    }

    public int harm(int gate, int colour) {
        if (!gateThere(gate) || !colourThere(colour)) {
            return no(-2);
        }
        Node n = tooMany() ? null : best(now);
        if (n == null) {
            return no(-5);
        }
        Node then = behindFoe(gate, colour);
        return then == null ? 99 : then.refusals - n.refusals;
    }

    /** All rows of m colours, first to last. */
    private static List<int[]> words(int m, int colours) {
        List<int[]> all = new ArrayList<>();
        all.add(new int[0]);
        for (int i = 0; i < m; i++) {
            List<int[]> longer = new ArrayList<>();
            for (int[] w : all) {
                for (int c = 0; c < colours; c++) {
                    int[] l = Arrays.copyOf(w, w.length + 1);
                    l[w.length] = c;
                    longer.add(l);
                }
            }
            all = longer;
        }
        return all;
    }

    public int sets(int gate, int colour) {
        if (!gateThere(gate) || !colourThere(colour)) {
            return no(-2);
        }
        for (int m = 0; m <= 5; m++) {
            for (int[] w : words(m, now.colours)) {
                State s = now.copy();
                for (int c : w) {
                    s.at(gate, c);
                }
                if (s.gates.get(gate).used.first == colour) {
                    return m;
                }
            }
        }
        return -1;
    }

    public int know(int gate) {
        if (!gateThere(gate)) {
            return no(-2);
        }
        List<State> guesses = new ArrayList<>();
        for (int f = -1; f < now.colours; f++) {
            State s = new State();
            s.colours = now.colours;
            newGate(s, now.gates.get(gate).kind, now.gates.get(gate).a);
            s.gates.get(0).own.first = f;
            guesses.add(s);
        }
        for (int n = 0; n <= 6; n++) {
            if (told(guesses, n)) {
                return n;
            }
        }
        return -1;
    }

    private static boolean told(List<State> guesses, int left) {
        if (guesses.size() < 2) {
            return true;
        }
        for (int c = 0; left > 0 && c < guesses.get(0).colours; c++) {
            List<State> in = new ArrayList<>();
            List<State> refused = new ArrayList<>();
            for (State g : guesses) {
                State s = g.copy();
                (s.at(0, c) ? in : refused).add(s);
            }
            if (told(in, left - 1) && told(refused, left - 1)) {
                return true;
            }
        }
        return false;
    }

    private List<int[]> keys(int m) {
        List<int[]> all = new ArrayList<>();
        for (int[] w : words(m, now.colours)) {
            State s = now.copy();
            boolean in = true;
            for (int c : w) {
                for (int g = 0; g < s.gates.size(); g++) {
                    in = in && s.at(g, c);
                }
            }
            if (in) {
                all.add(w);
            }
        }
        return all;
    }

    public int lock(int m) {
        return m < 0 || m > 6 ? no(-2) : keys(m).size();
    }

    public int key(int m, int i) {
        if (m < 0 || m > 6 || i < 0 || i >= m) {
            return no(-2);
        }
        List<int[]> keys = keys(m);
        return keys.isEmpty() ? no(-5) : keys.get(0)[i];
    }

    private int needColours(int s, int n, int most, int gate, int what, int mostWhat) {
        if (!shelf(s) || n < 1 || n > most || !gateThere(gate) || what < 0 || what > mostWhat) {
            return -2;
        }
        if (needRow(s) != 0) {
            return needRow(s);
        }
        for (int i = 0; i < n; i++) {
            if (i >= shelves[s].row.length || !colourThere(shelves[s].row[i])) {
                return -2;
            }
        }
        return 0;
    }

    public int makes(int s, int n, int gate, int what) {
        int no = needColours(s, n, 20, gate, what, 2);
        if (no != 0) {
            return no(no);
        }
        State then = now.copy();
        int bits = 0;
        for (int i = 0; i < n; i++) {
            bits += then.at(gate, (int) shelves[s].row[i]) ? 1 << i : 0;
        }
        Memory m = then.gates.get(gate).used;
        return new int[] {bits, m.first, m.second}[what];
    }

    public int stream(int s, int n, int gate, int what) {
        int no = needColours(s, n, 20, gate, what, 1);
        if (no != 0) {
            return no(no);
        }
        State then = now.copy();
        Memory m = then.gates.get(gate).used;
        List<String> beginnings = new ArrayList<>();
        int let = 0;
        for (int round = 0;; round++) {
            String begin = m.first + " " + m.second;
            if (round >= 20) {
                if (beginnings.contains(begin)) {
                    return what == 0 ? let : round - 20;
                }
                beginnings.add(begin);
            }
            for (int i = 0; i < n; i++) {
                boolean in = then.at(gate, (int) shelves[s].row[i]);
                let += in && round >= 20 ? 1 : 0;
            }
        }
    }

    public int scratched(int s, int n, int gate, int what) {
        int no = needColours(s, n, 6, gate, what, 1);
        if (no != 0) {
            return no(no);
        }
        Set<String> orders = new HashSet<>();
        permute(Arrays.copyOf(shelves[s].row, n), 0, orders);
        int count = 0;
        int firsts = 0;
        for (String order : orders) {
            State then = now.copy();
            Memory m = then.gates.get(gate).used;
            m.first = -1;
            m.second = -1;
            boolean refused = true;
            for (int i = 0; i < n; i++) {
                refused = refused && !then.at(gate, order.charAt(i) - '0');
            }
            if (refused) {
                count++;
                firsts |= m.first == -1 ? 0 : 1 << m.first;
            }
        }
        return what == 0 ? count : firsts;
    }

    private static void permute(long[] row, int from, Set<String> orders) {
        if (from == row.length) {
            StringBuilder b = new StringBuilder();
            for (long c : row) {
                b.append(c);
            }
            orders.add(b.toString());
            return;
        }
        for (int i = from; i < row.length; i++) {
            long[] next = row.clone();
            next[from] = row[i];
            next[i] = row[from];
            permute(next, from + 1, orders);
        }
    }

    public int drive(int n) {
        if (n < 1 || n > 40) {
            return no(-2);
        }
        int let = 0;
        for (int i = 0; i < n && !now.allOut(); i++) {
            List<Integer> waiting = new ArrayList<>();
            for (int k = 0; k < now.carts.size(); k++) {
                if (!now.isOut(k)) {
                    waiting.add(k);
                }
            }
            now.seed = (int) (now.seed * 1103515245L + 12345L);
            long upper = (now.seed & 0xffffffffL) >> 16;
            let += now.tryCart(waiting.get((int) (upper % waiting.size()))) ? 1 : 0;
        }
        return let;
    }

    public int home() {
        int out = 0;
        for (int k = 0; k < now.carts.size(); k++) {
            out += now.isOut(k) ? 1 : 0;
            now.carts.get(k).place = 0;
        }
        return out;
    }

    public int seed(int v) {
        int was = now.seed;
        now.seed = v;
        return was;
    }

    public int image() {
        kept = now.copy();
        return 1;
    }

    public int back() {
        if (kept == null) {
            return no(-5);
        }
        now = kept.copy();
        for (int s = 0; s < 8; s++) {
            if (shelves[s] != null && shelves[s].row == null && shelves[s].gate >= now.gates.size()) {
                shelves[s] = null;
            }
        }
        return 1;
    }

    public int status(int what) {
        int out = 0;
        for (int k = 0; k < now.carts.size(); k++) {
            out += now.isOut(k) ? 1 << k : 0;
        }
        int held = 0;
        for (Thing t : shelves) {
            held += t == null ? 0 : 1;
        }
        int[] all = {now.gates.size(), now.carts.size(), now.colours, out, now.tries, now.scratches(), tape.length(),
                now.seed, held, -1, -1, -1, refused[2], refused[3], refused[4], refused[5], refused[6]};
        return what >= 0 && what < all.length ? all[what] : -1;
    }

    /** A cart that isn't out tries in thought, so often: the morning as it would be told. */
    long[] rightMorning(int n, Rolls rolls) {
        State s = now.copy();
        List<Long> told = new ArrayList<>();
        for (int i = 0; i < 20 * n && told.size() < n && !s.allOut(); i++) {
            int k = rolls.below(s.carts.size());
            if (!s.isOut(k)) {
                told.add(2L * k + (s.tryCart(k) ? 1 : 0));
            }
        }
        long[] row = new long[told.size()];
        for (int i = 0; i < row.length; i++) {
            row[i] = told.get(i);
        }
        return row;
    }

    /** Numbers that are the same in every run. */
    static final class Rolls {
        private long state;

        Rolls(long start) {
            state = start * 0x9E3779B97F4A7C15L + 1;
        }

        int below(int n) {
            state = state * 6364136223846793005L + 1442695040888963407L;
            return (int) ((state >>> 33) % n);
        }

        boolean oneIn(int n) {
            return below(n) == 0;
        }
    }
}
