import java.lang.reflect.Method;
import java.util.Arrays;

/** Runs of rolled calls, each answered by RefusedLast and by Model alike. */
public final class ModelTest {
    /**
     * A call and how its arguments are rolled: s shelf, t sort, n size, i place, v value, g gate, G gate or NONE,
     * k kind, a number, c colour, C colour or NONE, r cart, p place of a cart, w what, m row of a lock, b byte,
     * N 1 to 20, S 1 to 6, D drives. The number is how often it comes.
     */
    private static final String[] CALLS = {
        "row stn 6", "set siv 10", "copy ssiin 8", "element si 4", "holds s 4", "show sG 8", "says sk 8", "colours n 1",
        "gate ka 4", "cart c 4", "place rp 5", "paint rc 4", "tell gCC 6", "share gG 8", "feed b 2", "wipe - 1",
        "yard - 1", "gateOf gw 6", "cartOf rw 3", "opens g 6", "ready - 4", "tries r 12", "judge sn 4", "morning sn 3",
        "behind snr 4", "stuck sn 4", "out w 4", "way i 4", "foe - 2", "harm gc 4", "sets gc 6", "know g 3", "lock m 4",
        "key mi 4", "makes sNgw 8", "stream sNgw 8", "scratched sSgw 8", "drive D 2", "home - 1", "seed v 1",
        "image - 1", "back - 1", "status w 2"};
    private static final String[] WORDS = {"colours", "gate", "cart", "share", "forget", "knows", "at", ";", " ", "0", "1",
        "2", "3", "12", "007", "gates", "-", "A", "9"};

    private final Model.Rolls rolls;
    private final RefusedLast real = new RefusedLast();
    private final Model model = new Model();
    private final StringBuilder calls = new StringBuilder();
    private int made = 0;

    private ModelTest(long start) {
        rolls = new Model.Rolls(start);
    }

    public static void main(String[] args) throws Exception {
        int runs = args.length > 0 ? Integer.parseInt(args[0]) : 400;
        long answers = 0;
        for (int run = 0; run < runs; run++) {
            ModelTest t = new ModelTest(run);
            if (!t.run()) {
                System.out.println("run " + run + ":\n" + t.calls);
                System.exit(1);
            }
            answers += t.made;
        }
        System.out.println(answers + " answers alike");
    }

    private boolean run() throws Exception {
        boolean small = rolls.oneIn(2);
        if (rolls.oneIn(3) && !call("colours", 2)) {
            return false;
        }
        for (int i = 0; i < 1 + rolls.below(small ? 3 : 6); i++) {
            if (!call("gate", rolls.below(6), rolls.below(10)) || !call("cart", rolls.below(2))) {
                return false;
            }
        }
        while (made < 440) {
            if (rolls.oneIn(25)) {
                if (!text()) {
                    return false;
                }
            } else if (rolls.oneIn(10)) {
                if (!rightMorning()) {
                    return false;
                }
            } else if (rolls.oneIn(10)) {
                if (!rowOfColours()) {
                    return false;
                }
            } else if (!any(small)) {
                return false;
            }
        }
        return all();
    }

    private boolean any(boolean small) throws Exception {
        String[] spec = CALLS[rolls.below(CALLS.length)].split(" ");
        if (!rolls.oneIn(12) && rolls.below(12) >= Integer.parseInt(spec[2])) {
            return true;
        }
        if (small && (spec[0].equals("gate") && real.status(0) >= 3 || spec[0].equals("cart") && real.status(1) >= 3)) {
            return true;
        }
        String forms = spec[1].equals("-") ? "" : spec[1];
        Object[] args = new Object[forms.length()];
        for (int i = 0; i < args.length; i++) {
            args[i] = rolled(forms.charAt(i));
        }
        return call(spec[0], args);
    }

    private Object rolled(char form) {
        if (rolls.oneIn(40) && form != 'v') {
            int[] odd = {-1, -2, 41, 99, Integer.MAX_VALUE, Integer.MIN_VALUE, 7, 8, 21};
            return odd[rolls.below(odd.length)];
        }
        switch (form) {
            case 's': return rolls.below(rolls.oneIn(3) ? 8 : 4);
            case 't': return rolls.below(5);
            case 'n': return rolls.below(rolls.oneIn(2) ? 6 : 41);
            case 'i': return rolls.below(rolls.oneIn(2) ? 6 : 20);
            case 'v': return rolls.oneIn(2) ? rolls.below(6) : ((long) rolls.below(1 << 30) << 34) + rolls.below(1 << 30) - (1 << 29);
            case 'g': return rolls.below(real.status(0) + 1);
            case 'G': return rolls.below(real.status(0) + 2) - 1;
            case 'k': return rolls.below(6);
            case 'a': return rolls.below(10);
            case 'c': return rolls.below(real.status(2));
            case 'C': return rolls.below(real.status(2) + 1) - 1;
            case 'r': return rolls.below(real.status(1) + 1);
            case 'p': return rolls.below(real.status(0) + 1);
            case 'w': return rolls.below(rolls.oneIn(3) ? 18 : 3);
            case 'm': return rolls.below(7);
            case 'b': return rolls.below(256);
            case 'N': return 1 + rolls.below(rolls.oneIn(3) ? 20 : 8);
            case 'S': return 1 + rolls.below(6);
            case 'D': return 1 + rolls.below(8);
            default: throw new IllegalArgumentException(form + "");
        }
    }

    private boolean text() throws Exception {
        StringBuilder b = new StringBuilder();
        int statements = 1 + rolls.below(3);
        for (int i = 0; i < statements; i++) {
            b.append(i > 0 ? ";" : "").append(rolls.oneIn(3) ? " " : "").append(statement());
        }
        if (rolls.oneIn(3)) {
            int at = rolls.below(b.length() + 1);
            b.insert(at, WORDS[rolls.below(WORDS.length)]);
        }
        if (rolls.oneIn(4)) {
            b.setLength(rolls.below(b.length() + 1));
        }
        for (int i = 0; i < b.length(); i++) {
            if (!call("feed", (int) b.charAt(i))) {
                return false;
            }
        }
        return call("yard");
    }

    private String statement() {
        int g = rolls.below(real.status(0) + 1);
        int c = rolls.below(real.status(2));
        switch (rolls.below(6)) {
            case 0: return "gate " + rolls.below(6) + (rolls.oneIn(2) ? " 0" : "  ") + rolls.below(10);
            case 1: return "gate 2 0 knows " + c + (rolls.oneIn(2) ? "knows" + rolls.below(3) : "");
            case 2: return "cart" + c + (rolls.oneIn(2) ? " at " + rolls.below(4) : "");
            case 3: return "share " + g + " " + rolls.below(g + 1);
            case 4: return "forget " + g;
            default: return "colours " + (2 + rolls.below(3));
        }
    }

    private boolean rightMorning() throws Exception {
        long[] row = model.rightMorning(1 + rolls.below(12), rolls);
        if (row.length > 0 && rolls.oneIn(4)) {
            row[rolls.below(row.length)] ^= 1;
        }
        return fill(row) && call("judge", 0, row.length) && call("behind", 0, row.length, 0) && call("stuck", 0, row.length)
                && (rolls.oneIn(2) || call("morning", 0, row.length));
    }

    private boolean rowOfColours() throws Exception {
        long[] row = new long[6 + rolls.below(15)];
        for (int i = 0; i < row.length; i++) {
            row[i] = rolls.below(real.status(2));
        }
        int gate = rolls.below(real.status(0) + 1);
        return fill(row) && call("makes", 0, row.length, gate, rolls.below(3))
                && call("stream", 0, 1 + rolls.below(row.length), gate, rolls.below(2))
                && call("scratched", 0, 1 + rolls.below(6), gate, rolls.below(2));
    }

    private boolean fill(long[] row) throws Exception {
        if (!call("row", 0, rolls.below(4), row.length)) {
            return false;
        }
        for (int i = 0; i < row.length; i++) {
            if (!call("set", 0, i, row[i])) {
                return false;
            }
        }
        return true;
    }

    /** One call on both, and then what can be seen of the state. */
    private boolean call(String name, Object... args) throws Exception {
        made++;
        for (Method m : RefusedLast.class.getMethods()) {
            if (!m.getName().equals(name) || m.getParameterCount() != args.length) {
                continue;
            }
            Object[] fit = args.clone();
            for (int i = 0; i < fit.length; i++) {
                long v = ((Number) fit[i]).longValue();
                if (m.getParameterTypes()[i] == long.class) {
                    fit[i] = v;
                } else {
                    fit[i] = (int) v;
                }
            }
            Object got = m.invoke(real, fit);
            Object want = Model.class.getMethod(name, m.getParameterTypes()).invoke(model, fit);
            calls.append(name).append(Arrays.toString(fit)).append(" = ").append(got).append('\n');
            if (!got.equals(want)) {
                calls.append("due is ").append(want).append('\n');
                return false;
            }
            return name.equals("feed") || name.equals("set") || seen();
        }
        throw new IllegalStateException(name);
    }

    /** The state as status, gateOf and cartOf tell it; these calls are not counted as calls of the run. */
    private boolean seen() {
        for (int what = -1; what <= 17; what++) {
            if (real.status(what) != model.status(what)) {
                calls.append("then status(" + what + ") = " + real.status(what) + ", due is " + model.status(what) + "\n");
                return false;
            }
        }
        for (int g = 0; g < real.status(0); g++) {
            for (int what = 0; what < 6; what++) {
                if (real.gateOf(g, what) != model.gateOf(g, what)) {
                    calls.append("then gateOf(" + g + ", " + what + ") differs\n");
                    return false;
                }
            }
        }
        for (int k = 0; k < real.status(1); k++) {
            if (real.cartOf(k, 0) != model.cartOf(k, 0) || real.cartOf(k, 1) != model.cartOf(k, 1)) {
                calls.append("then cartOf(" + k + ") differs\n");
                return false;
            }
        }
        for (int s = -1; s <= 8; s++) {
            if (real.holds(s) != model.holds(s)) {
                calls.append("then holds(" + s + ") differs\n");
                return false;
            }
        }
        return true;
    }

    private boolean all() {
        for (int s = 0; s < 8; s++) {
            for (int i = 0; i < 40; i++) {
                if (real.element(s, i) != model.element(s, i)) {
                    calls.append("then element(" + s + ", " + i + ") differs\n");
                    return false;
                }
            }
        }
        return true;
    }
}
