/**
 * Gates in a row that remember what they refused, and carts that drive through them.
 * ../shared/DOC.md says what every call answers; its words in capitals are used here as it means them.
 */
public final class RefusedLast {
    public static final int NONE = -1;

    private static final int BAD = -2;
    private static final int OTHER = -3;
    private static final int NOTHING = -4;
    private static final int STUCK = -5;
    private static final int FULL = -6;

    /** As many GATES, and as many CARTS, there may be. */
    private static final int MOST = 6;
    private static final int MOST_KNOWN = 6;
    private static final int MOST_SHELVES = 8;
    private static final int MOST_ELEMENTS = 40;
    private static final int MOST_LOCKED = 6;
    private static final int MOST_STREAMED = 20;
    private static final int MOST_SCRATCHED = 6;
    private static final int MOST_DRIVEN = 40;
    private static final int NEVER = 99;

    private final Yard now = new Yard();
    private final Yard thought = new Yard();
    private final Yard kept = new Yard();
    private boolean isKept = false;
    private final Shelf[] shelves = new Shelf[MOST_SHELVES];
    private final Tape tape = new Tape();
    private final Search search = new Search();
    private final int[] refusals = new int[5];

    public RefusedLast() {
        for (int s = 0; s < MOST_SHELVES; s++) {
            shelves[s] = new Shelf();
        }
    }

    // ---- SHELVES

    public int row(int s, int sort, int n) {
        if (!isShelf(s) || sort < 0 || sort > Shelf.BOOLEANS || n < 0 || n > MOST_ELEMENTS) {
            return refuse(BAD);
        }
        shelves[s].holdRow(sort, n);
        return 1;
    }

    public int set(int s, int i, long v) {
        int no = rowRefusal(isShelf(s), s);
        if (no != 0) {
            return refuse(no);
        }
        if (!shelves[s].isPlace(i)) {
            return refuse(BAD);
        }
        shelves[s].put(i, v);
        return 1;
    }

    public int copy(int p, int q, int i, int j, int n) {
        if (!isShelf(p) || !isShelf(q)) {
            return refuse(BAD);
        }
        Shelf from = shelves[p];
        Shelf to = shelves[q];
        if (from.isGate() || to.isGate() || from.isRow() && to.isRow() && from.holding != to.holding) {
            return refuse(OTHER);
        }
        if (!from.isRow() || !to.isRow()) {
            return refuse(NOTHING);
        }
        if (!from.isStretch(i, n) || !to.isStretch(j, n)) {
            return refuse(BAD);
        }
        System.arraycopy(from.elements, i, to.elements, j, n);
        return n;
    }

    public long element(int s, int i) {
        return isShelf(s) && shelves[s].isRow() && shelves[s].isPlace(i) ? shelves[s].elements[i] : 0;
    }

    public int holds(int s) {
        if (!isShelf(s)) {
            return NONE;
        }
        Shelf shelf = shelves[s];
        return shelf.isGate() ? 10 + shelf.gate : shelf.holding;
    }

    public int show(int s, int gate) {
        if (!isShelf(s) || gate != NONE && !now.isGate(gate)) {
            return refuse(BAD);
        }
        if (gate == NONE) {
            shelves[s].holdNothing();
        } else {
            shelves[s].holdGate(gate);
        }
        return 1;
    }

    public int says(int s, int kind) {
        if (!isShelf(s) || !Kind.isKind(kind)) {
            return refuse(BAD);
        }
        Shelf shelf = shelves[s];
        if (shelf.isRow()) {
            return refuse(OTHER);
        }
        if (!shelf.isGate() || !now.isGate(shelf.gate)) {
            return refuse(NOTHING);
        }
        if (!Kind.isOrIsUnder(now.kind[shelf.gate], kind)) {
            return refuse(OTHER);
        }
        return said(shelf.gate, kind);
    }

    /** A GATE answers for the KIND that it is taken for, not for its own. */
    private int said(int g, int kind) {
        switch (kind) {
            case Kind.GATE:
                return now.a[g];
            case Kind.LAST:
                return Memory.first(now.memoryOf(g));
            case Kind.STUCK:
                return now.a[g] & 1;
            default:
                return Memory.second(now.memoryOf(g));
        }
    }

    // ---- THE YARD

    public int colours(int n) {
        if (!Yard.isManyColours(n)) {
            return refuse(BAD);
        }
        if (!now.isEmpty()) {
            return refuse(STUCK);
        }
        int was = now.colours;
        now.colours = n;
        return was;
    }

    public int gate(int kind, int a) {
        if (!Kind.isKind(kind) || a < 0 || a >= Yard.MOST_A) {
            return refuse(BAD);
        }
        if (now.gates >= MOST) {
            return refuse(FULL);
        }
        return now.addGate(kind, a);
    }

    public int cart(int colour) {
        if (!now.isColour(colour)) {
            return refuse(BAD);
        }
        if (now.carts >= MOST) {
            return refuse(FULL);
        }
        return now.addCart(colour);
    }

    public int place(int cart, int v) {
        if (!now.isCart(cart) || v < 0 || v > now.gates) {
            return refuse(BAD);
        }
        int was = now.place[cart];
        now.place[cart] = v;
        return was;
    }

    public int paint(int cart, int colour) {
        if (!now.isCart(cart) || !now.isColour(colour)) {
            return refuse(BAD);
        }
        int was = now.colour[cart];
        now.colour[cart] = colour;
        return was;
    }

    public int tell(int gate, int first, int second) {
        if (!now.isGate(gate) || !now.isColourOrNone(first) || !now.isColourOrNone(second)) {
            return refuse(BAD);
        }
        now.remember(gate, Memory.of(first, second));
        return 1;
    }

    public int share(int gate, int other) {
        if (!now.isGate(gate) || other < NONE || other >= gate) {
            return refuse(BAD);
        }
        int owner = other == NONE ? gate : other;
        if (now.uses[gate] == owner) {
            return 0;
        }
        if (other != NONE && (now.uses[other] != other || now.isUsedByOther(gate))) {
            return refuse(STUCK);
        }
        now.uses[gate] = owner;
        return 1;
    }

    // ---- THE TAPE

    public int feed(int letter) {
        if (letter < 0 || letter > 255) {
            return refuse(BAD);
        }
        if (tape.size >= Tape.ROOM) {
            return refuse(FULL);
        }
        tape.add(letter);
        return tape.size;
    }

    public int wipe() {
        int was = tape.size;
        tape.size = 0;
        return was;
    }

    public int yard() {
        thought.become(now);
        int statements = tape.readYard(thought);
        tape.size = 0;
        if (statements == NONE) {
            refuse(BAD);
            return -20 - tape.fault();
        }
        now.become(thought);
        return statements;
    }

    // ---- what there is

    public int gateOf(int gate, int what) {
        if (!now.isGate(gate)) {
            return refuse(BAD);
        }
        switch (what) {
            case 0:
                return now.kind[gate];
            case 1:
                return now.a[gate];
            case 2:
                return Memory.first(now.memoryOf(gate));
            case 3:
                return Memory.second(now.memoryOf(gate));
            case 4:
                return now.uses[gate];
            case 5:
                return now.scratches[gate];
            default:
                return refuse(BAD);
        }
    }

    public int cartOf(int cart, int what) {
        if (!now.isCart(cart)) {
            return refuse(BAD);
        }
        switch (what) {
            case 0:
                return now.colour[cart];
            case 1:
                return now.place[cart];
            case 2:
                return now.isOut(cart) ? 1 : 0;
            default:
                return refuse(BAD);
        }
    }

    public int opens(int gate) {
        if (!now.isGate(gate)) {
            return refuse(BAD);
        }
        int bits = 0;
        for (int c = 0; c < now.colours; c++) {
            if (now.letsIn(gate, now.memoryOf(gate), c)) {
                bits |= 1 << c;
            }
        }
        return bits;
    }

    public int ready() {
        int bits = 0;
        for (int k = 0; k < now.carts; k++) {
            if (!now.isOut(k) && now.letsIn(now.place[k], now.memoryOf(now.place[k]), now.colour[k])) {
                bits |= 1 << k;
            }
        }
        return bits;
    }

    // ---- TRIES and MORNINGS

    public int tries(int cart) {
        if (!now.isCart(cart)) {
            return refuse(BAD);
        }
        if (now.isOut(cart)) {
            return refuse(STUCK);
        }
        return now.tryCart(cart) ? 1 : 0;
    }

    public int judge(int s, int n) {
        int no = morningRefusal(true, s, n);
        return no != 0 ? refuse(no) : wrongAt(s, n, NONE);
    }

    public int morning(int s, int n) {
        int no = morningRefusal(true, s, n);
        if (no != 0) {
            return refuse(no);
        }
        if (wrongAt(s, n, NONE) != NONE) {
            return refuse(STUCK);
        }
        int scratches = thought.scratchesOfAll() - now.scratchesOfAll();
        now.become(thought);
        return scratches;
    }

    public int behind(int s, int n, int cart) {
        int no = morningRefusal(now.isCart(cart), s, n);
        if (no != 0) {
            return refuse(no);
        }
        if (wrongAt(s, n, NONE) != NONE) {
            return refuse(STUCK);
        }
        return thought.place[cart];
    }

    public int stuck(int s, int n) {
        int no = morningRefusal(true, s, n);
        if (no != 0) {
            return refuse(no);
        }
        int bits = 0;
        for (int g = 0; g < now.gates; g++) {
            if (wrongAt(s, n, g) == NONE) {
                bits |= 1 << g;
            }
        }
        return bits;
    }

    private int morningRefusal(boolean othersMayBe, int s, int n) {
        return stretchRefusal(othersMayBe && n >= 0 && n <= MOST_ELEMENTS, s, n);
    }

    /**
     * WRONG of a MORNING, NONE if it is right; gate (if it is one) is thought STUCK, open to nobody.
     * The yard as it is behind the MORNING stands in thought then.
     */
    private int wrongAt(int s, int n, int gate) {
        thought.become(now);
        if (thought.isGate(gate)) {
            thought.kind[gate] = Kind.STUCK;
            thought.a[gate] = 0;
        }
        for (int i = 0; i < n; i++) {
            long told = element(s, i);
            if (told < 0 || told >= 2L * thought.carts) {
                return i;
            }
            int cart = (int) (told >> 1);
            if (thought.isOut(cart) || thought.tryCart(cart) != ((told & 1) == 1)) {
                return i;
            }
        }
        return NONE;
    }

    // ---- OUT

    public int out(int what) {
        if (what < 0 || what > 1) {
            return refuse(BAD);
        }
        if (!search.takes(now) || !search.run(now, Search.stateOf(now))) {
            return refuse(STUCK);
        }
        return what == 0 ? search.refusals(now) : search.length();
    }

    public int way(int i) {
        if (i < 0) {
            return refuse(BAD);
        }
        if (!search.takes(now) || !search.run(now, Search.stateOf(now)) || i >= search.length()) {
            return refuse(STUCK);
        }
        return search.cartAt(i);
    }

    public int foe() {
        if (now.gates == 0) {
            return NONE;
        }
        if (!search.takes(now)) {
            return refuse(STUCK);
        }
        int most = NONE;
        int foe = NONE;
        for (int g = 0; g < now.gates; g++) {
            for (int c = 0; c < now.colours; c++) {
                if (!search.run(now, Search.stateBehind(now, g, c))) {
                    return 10 * g + c;
                }
                if (search.refusals(now) > most) {
                    most = search.refusals(now);
                    foe = 10 * g + c;
                }
            }
        }
        return foe;
    }

    public int harm(int gate, int colour) {
        if (!now.isGate(gate) || !now.isColour(colour)) {
            return refuse(BAD);
        }
        if (!search.takes(now) || !search.run(now, Search.stateOf(now))) {
            return refuse(STUCK);
        }
        int before = search.refusals(now);
        return search.run(now, Search.stateBehind(now, gate, colour)) ? search.refusals(now) - before : NEVER;
    }

    // ---- one GATE, and LOCKS

    public int sets(int gate, int colour) {
        if (!now.isGate(gate) || !now.isColour(colour)) {
            return refuse(BAD);
        }
        return Thought.triesToSet(now, gate, colour);
    }

    public int know(int gate) {
        if (!now.isGate(gate)) {
            return refuse(BAD);
        }
        int guesses = 0;
        for (int first = NONE; first < now.colours; first++) {
            guesses |= Memory.of(first, NONE) << 4 * (first + 1);
        }
        int all = (1 << now.colours + 1) - 1;
        for (int n = 0; n <= MOST_KNOWN; n++) {
            if (Thought.tellsApart(now, gate, guesses, all, n)) {
                return n;
            }
        }
        return NONE;
    }

    public int lock(int m) {
        if (m < 0 || m > MOST_LOCKED) {
            return refuse(BAD);
        }
        return Thought.rowsFrom(now, now.memories(), m);
    }

    public int key(int m, int i) {
        if (m < 0 || m > MOST_LOCKED || i < 0 || i >= m) {
            return refuse(BAD);
        }
        if (Thought.rowsFrom(now, now.memories(), m) == 0) {
            return refuse(STUCK);
        }
        return Thought.keyAt(now, m, i);
    }

    // ---- ROWS of COLOURS at a GATE

    public int makes(int s, int n, int gate, int what) {
        int no = coloursRefusal(now.isGate(gate) && what >= 0 && what <= 2, s, n, MOST_STREAMED);
        if (no != 0) {
            return refuse(no);
        }
        int memory = now.memoryOf(gate);
        int bits = 0;
        for (int i = 0; i < n; i++) {
            int c = colourAt(s, i);
            if (now.letsIn(gate, memory, c)) {
                bits |= 1 << i;
            }
            memory = now.memoryThen(gate, memory, c);
        }
        if (what == 0) {
            return bits;
        }
        return what == 1 ? Memory.first(memory) : Memory.second(memory);
    }

    public int stream(int s, int n, int gate, int what) {
        int no = coloursRefusal(now.isGate(gate) && what >= 0 && what <= 1, s, n, MOST_STREAMED);
        if (no != 0) {
            return refuse(no);
        }
        int memory = now.memoryOf(gate);
        for (int round = 0; round < 20; round++) {
            memory = Memory.MASK & roundOf(s, n, gate, memory);
        }
        int seen = 0;
        int let = 0;
        int rounds = 0;
        while (rounds <= Memory.MASK && (seen >> memory & 1) == 0) {
            seen |= 1 << memory;
            int round = roundOf(s, n, gate, memory);
            memory = Memory.MASK & round;
            let += round >> Memory.BITS;
            rounds++;
        }
        return what == 0 ? let : rounds;
    }

    /** One round of the ROW at a GATE: the MEMORY then, and above its bits how many were let in. */
    private int roundOf(int s, int n, int gate, int memory) {
        int then = memory;
        int let = 0;
        for (int i = 0; i < n; i++) {
            int c = colourAt(s, i);
            if (now.letsIn(gate, then, c)) {
                let++;
            }
            then = now.memoryThen(gate, then, c);
        }
        return let << Memory.BITS | then;
    }

    public int scratched(int s, int n, int gate, int what) {
        int no = coloursRefusal(now.isGate(gate) && what >= 0 && what <= 1, s, n, MOST_SCRATCHED);
        if (no != 0) {
            return refuse(no);
        }
        int heap = 0;
        for (int i = 0; i < n; i++) {
            heap += 1 << 4 * colourAt(s, i);
        }
        int orders = Thought.ordersFrom(now, gate, Memory.of(NONE, NONE), heap, n);
        return what == 0 ? orders >> Thought.FIRSTS_BITS : orders & Thought.FIRSTS_MASK;
    }

    private int colourAt(int s, int i) {
        return (int) element(s, i);
    }

    /** The refusal of a ROW of the first n elements, 1 to most, all of which must be COLOURS; 0: none. */
    private int coloursRefusal(boolean othersMayBe, int s, int n, int most) {
        int no = stretchRefusal(othersMayBe && n >= 1 && n <= most, s, n);
        if (no != 0) {
            return no;
        }
        for (int i = 0; i < n; i++) {
            long told = element(s, i);
            if (told < 0 || told >= now.colours) {
                return BAD;
            }
        }
        return 0;
    }

    // ---- DRAWS, and all that is kept

    public int drive(int n) {
        if (n < 1 || n > MOST_DRIVEN) {
            return refuse(BAD);
        }
        int let = 0;
        for (int i = 0; i < n; i++) {
            int waiting = now.carts - Integer.bitCount(now.outs());
            if (waiting <= 0) {
                return let;
            }
            if (now.tryCart(now.waitingCart(now.draw(waiting)))) {
                let++;
            }
        }
        return let;
    }

    public int home() {
        int were = Integer.bitCount(now.outs());
        for (int k = 0; k < now.carts; k++) {
            now.place[k] = 0;
        }
        return were;
    }

    public int seed(int v) {
        int was = now.seed;
        now.seed = v;
        return was;
    }

    public int image() {
        kept.become(now);
        isKept = true;
        return 1;
    }

    public int back() {
        if (!isKept) {
            return refuse(STUCK);
        }
        now.become(kept);
        for (int s = 0; s < MOST_SHELVES; s++) {
            if (shelves[s].isGate() && !now.isGate(shelves[s].gate)) {
                shelves[s].holdNothing();
            }
        }
        return 1;
    }

    public int status(int what) {
        switch (what) {
            case 0:
                return now.gates;
            case 1:
                return now.carts;
            case 2:
                return now.colours;
            case 3:
                return now.outs();
            case 4:
                return now.tries;
            case 5:
                return now.scratchesOfAll();
            case 6:
                return tape.size;
            case 7:
                return now.seed;
            case 8:
                return fullShelves();
            default:
                return what >= 12 && what <= 16 ? refusals[what - 12] : NONE;
        }
    }

    private int fullShelves() {
        int n = 0;
        for (int s = 0; s < MOST_SHELVES; s++) {
            if (shelves[s].isRow() || shelves[s].isGate()) {
                n++;
            }
        }
        return n;
    }

    // ---- REFUSALS of calls

    /** Counts a refusal (BAD to FULL) and answers it. */
    private int refuse(int why) {
        if (why <= BAD && why >= FULL) {
            refusals[BAD - why]++;
        }
        return why;
    }

    private static boolean isShelf(int s) {
        return s >= 0 && s < MOST_SHELVES;
    }

    /** The refusal of a SHELF that must hold a ROW; 0: none. */
    private int rowRefusal(boolean numbersMayBe, int s) {
        if (!numbersMayBe || !isShelf(s)) {
            return BAD;
        }
        if (shelves[s].isGate()) {
            return OTHER;
        }
        return shelves[s].isRow() ? 0 : NOTHING;
    }

    /** The refusal of the first n elements of the ROW in a SHELF; 0: none. */
    private int stretchRefusal(boolean numbersMayBe, int s, int n) {
        int no = rowRefusal(numbersMayBe, s);
        if (no != 0) {
            return no;
        }
        return shelves[s].isStretch(0, n) ? 0 : BAD;
    }

    /** The KINDS by their numbers. */
    private static final class Kind {
        private static final int GATE = 0;
        private static final int LAST = 1;
        private static final int TWO = 2;
        private static final int BUT = 3;
        private static final int LET = 4;
        private static final int STUCK = 5;

        private static boolean isKind(int kind) {
            return kind >= GATE && kind <= STUCK;
        }

        private static boolean isOrIsUnder(int kind, int other) {
            return kind == other || other == GATE || other == LAST && kind >= TWO && kind <= LET;
        }
    }

    /** A MEMORY as one number of four bits, so that searches pack those of several GATES into an int. */
    private static final class Memory {
        private static final int BITS = 4;
        private static final int MASK = 15;

        private static int of(int first, int second) {
            return first + 1 | second + 1 << 2;
        }

        private static int first(int memory) {
            return (memory & 3) - 1;
        }

        private static int second(int memory) {
            return (memory >> 2 & 3) - 1;
        }

        private static int in(int memories, int g) {
            return memories >> BITS * g & MASK;
        }

        private static int with(int memories, int g, int memory) {
            return memories & ~(MASK << BITS * g) | memory << BITS * g;
        }
    }

    /** COLOURS, GATES, CARTS, TRIES and SEED: all that an image keeps. */
    private static final class Yard {
        private static final int MOST_A = 10;

        private int colours = 3;
        private int gates = 0;
        private int carts = 0;
        private int tries = 0;
        private int seed = 1;
        private final int[] kind = new int[MOST];
        private final int[] a = new int[MOST];
        /** Whose MEMORY each GATE uses. */
        private final int[] uses = new int[MOST];
        /** The MEMORY that is each GATE's own. */
        private final int[] own = new int[MOST];
        private final int[] scratches = new int[MOST];
        private final int[] colour = new int[MOST];
        private final int[] place = new int[MOST];

        private void become(Yard other) {
            colours = other.colours;
            gates = other.gates;
            carts = other.carts;
            tries = other.tries;
            seed = other.seed;
            System.arraycopy(other.kind, 0, kind, 0, MOST);
            System.arraycopy(other.a, 0, a, 0, MOST);
            System.arraycopy(other.uses, 0, uses, 0, MOST);
            System.arraycopy(other.own, 0, own, 0, MOST);
            System.arraycopy(other.scratches, 0, scratches, 0, MOST);
            System.arraycopy(other.colour, 0, colour, 0, MOST);
            System.arraycopy(other.place, 0, place, 0, MOST);
        }

        private static boolean isManyColours(int n) {
            return n == 2 || n == 3;
        }

        private boolean isEmpty() {
            return gates == 0 && carts == 0;
        }

        private boolean isGate(int g) {
            return g >= 0 && g < gates;
        }

        private boolean isCart(int k) {
            return k >= 0 && k < carts;
        }

        private boolean isColour(int c) {
            return c >= 0 && c < colours;
        }

        private boolean isColourOrNone(int c) {
            return c == NONE || isColour(c);
        }

        private int addGate(int newKind, int newA) {
            if (gates >= MOST) {
                return NONE;
            }
            int g = gates++;
            kind[g] = newKind;
            a[g] = newA;
            uses[g] = g;
            own[g] = Memory.of(NONE, NONE);
            scratches[g] = 0;
            return g;
        }

        private int addCart(int newColour) {
            if (carts >= MOST) {
                return NONE;
            }
            int k = carts++;
            colour[k] = newColour;
            place[k] = 0;
            return k;
        }

        private int memoryOf(int g) {
            return own[uses[g]];
        }

        private void remember(int g, int memory) {
            own[uses[g]] = memory;
        }

        private boolean isUsedByOther(int g) {
            for (int h = 0; h < gates; h++) {
                if (h != g && uses[h] == g) {
                    return true;
                }
            }
            return false;
        }

        private boolean isOut(int k) {
            return place[k] >= gates;
        }

        private int outs() {
            int bits = 0;
            for (int k = 0; k < carts; k++) {
                if (isOut(k)) {
                    bits |= 1 << k;
                }
            }
            return bits;
        }

        private int scratchesOfAll() {
            int sum = 0;
            for (int g = 0; g < gates; g++) {
                sum += scratches[g];
            }
            return sum;
        }

        /** All GATES' own MEMORIES in one number. */
        private int memories() {
            int all = 0;
            for (int g = 0; g < gates; g++) {
                all = Memory.with(all, g, own[g]);
            }
            return all;
        }

        /** Whether a GATE whose MEMORY were memory would let in a COLOUR. */
        private boolean letsIn(int g, int memory, int c) {
            int first = Memory.first(memory);
            int second = Memory.second(memory);
            switch (kind[g]) {
                case Kind.GATE:
                    return colours > 0 && c == a[g] % colours;
                case Kind.LAST:
                    return c == first;
                case Kind.TWO:
                    return c == first || c == second;
                case Kind.BUT:
                    return c == second;
                case Kind.LET:
                    return c == first && c != second;
                default:
                    return (a[g] & 1) == 1;
            }
        }

        /** The MEMORY, that was memory, behind a TRY of a COLOUR at a GATE. */
        private int memoryThen(int g, int memory, int c) {
            if (kind[g] == Kind.GATE || kind[g] == Kind.STUCK) {
                return memory;
            }
            boolean in = letsIn(g, memory, c);
            if (kind[g] == Kind.LET) {
                return in ? Memory.of(Memory.first(memory), c) : Memory.of(c, Memory.second(memory));
            }
            return in ? memory : Memory.of(c, Memory.first(memory));
        }

        /** A TRY in truth of a CART that is not OUT: whether it was let in. */
        private boolean tryCart(int k) {
            if (!isCart(k) || !isGate(place[k])) {
                return false;
            }
            int g = place[k];
            int memory = memoryOf(g);
            boolean in = letsIn(g, memory, colour[k]);
            remember(g, memoryThen(g, memory, colour[k]));
            tries++;
            if (in) {
                place[k]++;
            } else {
                scratches[g]++;
            }
            return in;
        }

        private int draw(int below) {
            seed = seed * 1103515245 + 12345;
            return below > 0 ? (seed >>> 16) % below : 0;
        }

        /** Of the CARTS that are not OUT the one with i such ahead of it; NONE: there are not so many. */
        private int waitingCart(int i) {
            int left = i;
            for (int k = 0; k < carts; k++) {
                if (!isOut(k) && left-- == 0) {
                    return k;
                }
            }
            return NONE;
        }
    }

    /** One of the SHELVES. */
    private static final class Shelf {
        private static final int BYTES = 0;
        private static final int SHORTS = 1;
        private static final int INTS = 2;
        private static final int BOOLEANS = 4;
        private static final int A_GATE = 10;

        /** The SORT of a ROW, or A_GATE, or NONE for NOTHING. */
        private int holding = NONE;
        private int gate = NONE;
        private int size = 0;
        private final long[] elements = new long[MOST_ELEMENTS];

        private boolean isRow() {
            return holding >= BYTES && holding <= BOOLEANS;
        }

        private boolean isGate() {
            return holding == A_GATE;
        }

        private boolean isPlace(int i) {
            return i >= 0 && i < size;
        }

        /** Whether n elements stand from place i on. */
        private boolean isStretch(int i, int n) {
            return i >= 0 && n >= 0 && n <= size && i <= size - n;
        }

        private void holdNothing() {
            holding = NONE;
            gate = NONE;
            size = 0;
        }

        private void holdGate(int g) {
            holding = A_GATE;
            gate = g;
            size = 0;
        }

        private void holdRow(int sort, int n) {
            holding = sort;
            gate = NONE;
            size = n;
            for (int i = 0; i < MOST_ELEMENTS; i++) {
                elements[i] = 0;
            }
        }

        private void put(int i, long v) {
            if (isPlace(i)) {
                elements[i] = lowestBits(v);
            }
        }

        private long lowestBits(long v) {
            switch (holding) {
                case BYTES:
                    return (byte) v;
                case SHORTS:
                    return (short) v;
                case INTS:
                    return (int) v;
                case BOOLEANS:
                    return v != 0 ? 1 : 0;
                default:
                    return v;
            }
        }
    }

    /** THE TAPE, and how a YARD is read from it. */
    private static final class Tape {
        private static final int ROOM = 250;
        private static final int END = 0;
        private static final int WORD = 1;
        private static final int NUMBER = 2;
        private static final int SIGN = 3;
        private static final int ODD = 4;

        private final int[] bytes = new int[ROOM];
        private int size = 0;
        /** The TOKEN that is looked at: its sort, its first byte, the byte behind it. */
        private int sort = END;
        private int first = 0;
        private int end = 0;

        private void add(int letter) {
            if (size < ROOM) {
                bytes[size++] = letter;
            }
        }

        /** The place of the TOKEN at which reading stopped. */
        private int fault() {
            return first;
        }

        /** All STATEMENTS come to y: how many; NONE: a FAULT, and y is spoilt. */
        private int readYard(Yard y) {
            end = 0;
            look();
            for (int n = 1; n <= ROOM; n++) {
                if (!readStatement(y)) {
                    return NONE;
                }
                if (sort == END) {
                    return n;
                }
                if (sort != SIGN) {
                    return NONE;
                }
                look();
            }
            return NONE;
        }

        private boolean readStatement(Yard y) {
            if (isWord("colours")) {
                return readColours(y);
            }
            if (isWord("gate")) {
                return readGate(y);
            }
            if (isWord("cart")) {
                return readCart(y);
            }
            if (isWord("share")) {
                return readShare(y);
            }
            return isWord("forget") && readForget(y);
        }

        private boolean readColours(Yard y) {
            if (!y.isEmpty()) {
                return false;
            }
            look();
            int n = number();
            if (!Yard.isManyColours(n)) {
                return false;
            }
            y.colours = n;
            look();
            return true;
        }

        private boolean readGate(Yard y) {
            if (y.gates >= MOST) {
                return false;
            }
            look();
            int kind = number();
            if (!Kind.isKind(kind)) {
                return false;
            }
            look();
            int a = number();
            if (a < 0 || a >= Yard.MOST_A) {
                return false;
            }
            look();
            return readKnown(y, y.addGate(kind, a));
        }

        /** knows C, knows D: neither, the first, or both. */
        private boolean readKnown(Yard y, int g) {
            if (!isWord("knows")) {
                return true;
            }
            look();
            int c = number();
            if (!y.isColour(c)) {
                return false;
            }
            y.remember(g, Memory.of(c, NONE));
            look();
            if (!isWord("knows")) {
                return true;
            }
            look();
            int d = number();
            if (!y.isColour(d)) {
                return false;
            }
            y.remember(g, Memory.of(c, d));
            look();
            return true;
        }

        private boolean readCart(Yard y) {
            if (y.carts >= MOST) {
                return false;
            }
            look();
            int c = number();
            if (!y.isColour(c)) {
                return false;
            }
            int k = y.addCart(c);
            look();
            if (!isWord("at")) {
                return true;
            }
            look();
            int p = number();
            if (p < 0 || p > y.gates) {
                return false;
            }
            y.place[k] = p;
            look();
            return true;
        }

        private boolean readShare(Yard y) {
            look();
            int g = number();
            if (!y.isGate(g)) {
                return false;
            }
            look();
            int h = number();
            if (h < 0 || h >= g || y.uses[h] != h || y.isUsedByOther(g)) {
                return false;
            }
            y.uses[g] = h;
            look();
            return true;
        }

        private boolean readForget(Yard y) {
            look();
            int g = number();
            if (!y.isGate(g)) {
                return false;
            }
            y.remember(g, Memory.of(NONE, NONE));
            look();
            return true;
        }

        /** Looks at the next TOKEN. */
        private void look() {
            first = end;
            while (first < size && bytes[first] == ' ') {
                first++;
            }
            end = first;
            if (first >= size) {
                sort = END;
                return;
            }
            if (isLetter(bytes[first])) {
                sort = WORD;
                while (end < size && isLetter(bytes[end])) {
                    end++;
                }
            } else if (isDigit(bytes[first])) {
                sort = NUMBER;
                while (end < size && isDigit(bytes[end])) {
                    end++;
                }
            } else {
                sort = bytes[first] == ';' ? SIGN : ODD;
                end++;
            }
        }

        private static boolean isLetter(int b) {
            return b >= 'a' && b <= 'z';
        }

        private static boolean isDigit(int b) {
            return b >= '0' && b <= '9';
        }

        private boolean isWord(String word) {
            if (sort != WORD || end - first != word.length()) {
                return false;
            }
            for (int i = 0; i < word.length() && first + i < size; i++) {
                if (bytes[first + i] != word.charAt(i)) {
                    return false;
                }
            }
            return true;
        }

        /** The NUMBER that is looked at; NONE: no NUMBER, or one of more than 2 digits. */
        private int number() {
            if (sort != NUMBER || end - first > 2) {
                return NONE;
            }
            int n = 0;
            for (int i = first; i < end && i < size; i++) {
                n = 10 * n + bytes[i] - '0';
            }
            return n;
        }
    }

    /** Questions answered in thought by trying everything. */
    private static final class Thought {
        private static final int FIRSTS_BITS = 3;
        private static final int FIRSTS_MASK = 7;

        /** SET: spreads over the MEMORIES that can be reached, a TRY more each time. */
        private static int triesToSet(Yard y, int g, int colour) {
            int reached = 1 << y.memoryOf(g);
            for (int tries = 0; tries <= Memory.MASK; tries++) {
                if (hasFirst(reached, colour)) {
                    return tries;
                }
                reached |= behindATry(y, g, reached);
            }
            return NONE;
        }

        private static boolean hasFirst(int reached, int colour) {
            for (int memory = 0; memory <= Memory.MASK; memory++) {
                if ((reached >> memory & 1) == 1 && Memory.first(memory) == colour) {
                    return true;
                }
            }
            return false;
        }

        private static int behindATry(Yard y, int g, int reached) {
            int then = 0;
            for (int memory = 0; memory <= Memory.MASK; memory++) {
                for (int c = 0; c < y.colours && (reached >> memory & 1) == 1; c++) {
                    then |= 1 << y.memoryThen(g, memory, c);
                }
            }
            return then;
        }

        /**
         * KNOW: whether so many TRIES tell the living guesses apart. Each guess has its MEMORY in guesses.
         */
        private static boolean tellsApart(Yard y, int g, int guesses, int living, int left) {
            if (Integer.bitCount(living) <= 1) {
                return true;
            }
            if (left <= 0 || areTwoAlike(guesses, living)) {
                return false;
            }
            for (int c = 0; c < y.colours; c++) {
                int in = 0;
                int then = guesses;
                for (int f = 0; f <= y.colours; f++) {
                    int memory = Memory.in(guesses, f);
                    if (y.letsIn(g, memory, c)) {
                        in |= 1 << f;
                    }
                    then = Memory.with(then, f, y.memoryThen(g, memory, c));
                }
                if (tellsApart(y, g, then, living & in, left - 1)
                        && tellsApart(y, g, then, living & ~in, left - 1)) {
                    return true;
                }
            }
            return false;
        }

        /** Guesses whose MEMORIES have become alike can't be told apart any more. */
        private static boolean areTwoAlike(int guesses, int living) {
            int seen = 0;
            for (int f = 0; f < 4; f++) {
                if ((living >> f & 1) == 1) {
                    int bit = 1 << Memory.in(guesses, f);
                    if ((seen & bit) != 0) {
                        return true;
                    }
                    seen |= bit;
                }
            }
            return false;
        }

        /** LOCK: how many ROWS of so many COLOURS all GATES let in at once, their MEMORIES being these. */
        private static int rowsFrom(Yard y, int memories, int left) {
            if (left <= 0) {
                return 1;
            }
            int rows = 0;
            for (int c = 0; c < y.colours; c++) {
                int then = memoriesThrough(y, memories, c);
                if (then != NONE) {
                    rows += rowsFrom(y, then, left - 1);
                }
            }
            return rows;
        }

        /** The COLOUR at place i of the first ROW of m; NONE: there is none. */
        private static int keyAt(Yard y, int m, int i) {
            int memories = y.memories();
            int colour = NONE;
            for (int at = 0; at <= i; at++) {
                colour = firstKey(y, memories, m - at - 1);
                if (colour == NONE) {
                    return NONE;
                }
                memories = memoriesThrough(y, memories, colour);
            }
            return colour;
        }

        /** The first COLOUR that is let in by all and behind which a ROW of so many more is. */
        private static int firstKey(Yard y, int memories, int left) {
            for (int c = 0; c < y.colours; c++) {
                int then = memoriesThrough(y, memories, c);
                if (then != NONE && rowsFrom(y, then, left) > 0) {
                    return c;
                }
            }
            return NONE;
        }

        /** The MEMORIES behind a new CART that all GATES let in; NONE: one refuses it. */
        private static int memoriesThrough(Yard y, int memories, int c) {
            int then = memories;
            for (int g = 0; g < y.gates; g++) {
                int memory = Memory.in(then, y.uses[g]);
                if (!y.letsIn(g, memory, c)) {
                    return NONE;
                }
                then = Memory.with(then, y.uses[g], y.memoryThen(g, memory, c));
            }
            return then;
        }

        /**
         * SCRATCHED: in how many orders a GATE refuses each of a heap (how often each COLOUR, four bits each);
         * below that the bits of what FIRST may be then.
         */
        private static int ordersFrom(Yard y, int g, int memory, int heap, int left) {
            if (left <= 0) {
                int first = Memory.first(memory);
                return 1 << FIRSTS_BITS | (first == NONE ? 0 : 1 << first);
            }
            int orders = 0;
            int firsts = 0;
            for (int c = 0; c < y.colours; c++) {
                if ((heap >> 4 * c & 15) > 0 && !y.letsIn(g, memory, c)) {
                    int rest = ordersFrom(y, g, y.memoryThen(g, memory, c), heap - (1 << 4 * c), left - 1);
                    orders += rest >> FIRSTS_BITS;
                    firsts |= rest & FIRSTS_MASK;
                }
            }
            return orders << FIRSTS_BITS | firsts;
        }
    }

    /**
     * OUT: goes through all states of a yard, nearest first. How many TRIES let CARTS in is the same on all
     * ways, so the fewest TRIES are the fewest REFUSALS as well; and as CARTS are tried by their numbers,
     * the way by which a state is first come to is the first of the shortest.
     */
    private static final class Search {
        private static final int LARGEST = 3;
        /** A state: three MEMORIES, and above these three PLACES. */
        private static final int PLACES_AT = 12;
        private static final int PLACE_BITS = 2;
        private static final int PLACE_MASK = 3;
        private static final int STATE_BITS = 18;
        private static final int STATES = 1 << STATE_BITS;
        private static final int STATE_MASK = STATES - 1;
        /** A step: the state come to, the place in line of the one ahead, the CART that was tried. */
        private static final int CART_AT = 2 * STATE_BITS;
        private static final int ROOM_AT_FIRST = 1024;

        private final long[] seen = new long[STATES >> 6];
        private long[] line = new long[ROOM_AT_FIRST];
        private int count = 0;
        private int goalAt = 0;
        private int length = 0;

        private boolean takes(Yard y) {
            return y.gates <= LARGEST && y.carts <= LARGEST;
        }

        private static int stateOf(Yard y) {
            int state = y.memories();
            for (int k = 0; k < y.carts && k < LARGEST; k++) {
                state |= y.place[k] << PLACES_AT + PLACE_BITS * k;
            }
            return state;
        }

        /** The state behind a TRY of a COLOUR at a GATE. */
        private static int stateBehind(Yard y, int g, int c) {
            return Memory.with(stateOf(y), y.uses[g], y.memoryThen(g, y.memoryOf(g), c));
        }

        /** Searches from a state; whether all can be OUT. */
        private boolean run(Yard y, int start) {
            int goal = 0;
            for (int k = 0; k < y.carts; k++) {
                goal |= y.gates << PLACE_BITS * k;
            }
            forget();
            append(start, 0, 0);
            for (int i = 0; i < count && i < STATES; i++) {
                int state = stateAt(i);
                if (state >> PLACES_AT == goal) {
                    goalAt = i;
                    length = stepsTo(i);
                    return true;
                }
                for (int k = 0; k < y.carts; k++) {
                    append(behindTry(y, state, k), i, k);
                }
            }
            return false;
        }

        private static int behindTry(Yard y, int state, int k) {
            int at = PLACES_AT + PLACE_BITS * k;
            int g = state >> at & PLACE_MASK;
            if (!y.isGate(g)) {
                return state;
            }
            int memory = Memory.in(state, y.uses[g]);
            int then = Memory.with(state, y.uses[g], y.memoryThen(g, memory, y.colour[k]));
            return y.letsIn(g, memory, y.colour[k]) ? then + (1 << at) : then;
        }

        /** Only what the last search saw is wiped: mostly that is far less than all. */
        private void forget() {
            for (int i = 0; i < count; i++) {
                seen[stateAt(i) >> 6] = 0;
            }
            count = 0;
        }

        private void append(int state, int from, int cart) {
            int word = (state & STATE_MASK) >> 6;
            long bit = 1L << (state & 63);
            if ((seen[word] & bit) != 0) {
                return;
            }
            if (count >= line.length) {
                grow();
            }
            if (count < line.length) {
                seen[word] |= bit;
                line[count++] = state | (long) from << STATE_BITS | (long) cart << CART_AT;
            }
        }

        /** No line needs to be longer than there are states, as each stands in it once. */
        private void grow() {
            long[] longer = new long[Math.min(STATES, 2 * line.length)];
            System.arraycopy(line, 0, longer, 0, line.length);
            line = longer;
        }

        private int stateAt(int i) {
            return (int) line[i] & STATE_MASK;
        }

        private int fromAt(int i) {
            return (int) (line[i] >> STATE_BITS) & STATE_MASK;
        }

        private int stepsTo(int i) {
            int steps = 0;
            for (int at = i; at > 0 && steps < count; at = fromAt(at)) {
                steps++;
            }
            return steps;
        }

        /** TRIES of the way that was found. */
        private int length() {
            return length;
        }

        private int refusals(Yard y) {
            int let = 0;
            for (int k = 0; k < y.carts; k++) {
                let += y.gates - (stateAt(0) >> PLACES_AT + PLACE_BITS * k & PLACE_MASK);
            }
            return length - let;
        }

        /** The CART of the i-th TRY of the way that was found. */
        private int cartAt(int i) {
            int at = goalAt;
            for (int left = length - 1 - i; left > 0 && at > 0; left--) {
                at = fromAt(at);
            }
            return (int) (line[at] >> CART_AT);
        }
    }
}
