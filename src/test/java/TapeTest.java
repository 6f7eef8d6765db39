/** Promises 16 to 18: THE TAPE, and yards read from it. */
public final class TapeTest {
    private static final Check check = new Check();

    public static void main(String[] args) {
        bytesAreFed();
        tapeIsFull();
        yardsAreRead();
        sameAsByCalls();
        everyByte();
        wordsAreWhole();
        whatWasThereAhead();
        faultsOfForm();
        faultsOfNumbers();
        faultsOfRoom();
        faultsOfShares();
        allOrNothing();
        check.end();
    }

    private static void bytesAreFed() {
        RefusedLast x = new RefusedLast();
        check.due("16: one byte", x.feed(0), 1);
        check.due("16: another", x.feed(255), 2);
        check.due("16: not 256", x.feed(256), -2);
        check.due("16: not -1", x.feed(-1), -2);
        check.due("44: size", x.status(6), 2);
        check.due("17: wiped", x.wipe(), 2);
        check.due("17: empty", x.wipe(), 0);
        for (int i = 1; i <= 250; i++) {
            check.due("16: byte " + i, x.feed(32), i);
        }
        check.due("16: FULL", x.feed(32), -6);
        check.due("16: BAD ahead of FULL", x.feed(256), -2);
        check.due("18: blanks alone end too early", x.yard(), -270);
        check.due("18: the tape is empty", x.status(6), 0);
    }

    private static void read(String text, int due) {
        RefusedLast x = new RefusedLast();
        check.due("18: '" + text + "'", Check.read(x, text), due);
        check.due("18: tape behind '" + text + "'", x.status(6), 0);
        check.due("18: refused '" + text + "'", x.status(12), due < 0 ? 1 : 0);
        if (due < 0) {
            check.due("18: gates behind '" + text + "'", x.status(0), 0);
            check.due("18: carts behind '" + text + "'", x.status(1), 0);
            check.due("18: colours behind '" + text + "'", x.status(2), 3);
        }
    }

    private static RefusedLast readYard(String text) {
        RefusedLast x = new RefusedLast();
        check.due("18: '" + text + "' is a yard", Check.read(x, text) > 0 ? 1 : 0, 1);
        return x;
    }

    /** As read, but the fault stands where the text has its sign ^ (which isn't read). */
    private static void fault(String text) {
        int at = text.indexOf('^');
        read(text.substring(0, at) + text.substring(at + 1), -20 - at);
    }

    /** 250 bytes at most, all of which are read. */
    private static void tapeIsFull() {
        read("colours 2;".repeat(24) + "colours 3 ", 25);
        read("colours 2;".repeat(25), -270);
        read("gate 0 0" + " ".repeat(242), 1);
        read(" ".repeat(242) + "gate 0 0", 1);
        read(" ".repeat(249) + "g", -269);
        read("g".repeat(250), -20);
        read("colours " + "2".repeat(242), -28);
        RefusedLast x = new RefusedLast();
        Check.feed(x, "colours 2;".repeat(24) + "colours 2 ");
        check.due("16: a 251st byte", x.feed(';'), -6);
        check.due("16: and another", x.feed(';'), -6);
        check.due("44: size", x.status(6), 250);
        check.due("44: FULL", x.status(16), 2);
        check.due("18: the first 250 are read", x.yard(), 25);
        check.due("16: room again behind yard", x.feed(';'), 1);
        RefusedLast y = new RefusedLast();
        Check.feed(y, " ".repeat(250));
        check.due("17: all of them", y.wipe(), 250);
        check.due("16: room again behind wipe", y.feed('c'), 1);
    }

    private static void yardsAreRead() {
        read("colours 2", 1);
        read("  colours2;colours   3 ; colours 2", 3);
        read("gate0 0;gate5 9", 2);
        read("gate 01 09 knows 02knows 0;cart2at 1", 2);
        RefusedLast x = readYard("colours 2;gate 3 7 knows 1 knows 0;gate 4 0 knows 1;gate 1 00;cart 1 at 03;share 2 1;cart 0");
        check.due("18: colours", x.status(2), 2);
        check.due("18: gates", x.status(0), 3);
        check.due("18: carts", x.status(1), 2);
        check.due("18: kind", x.gateOf(0, 0), 3);
        check.due("18: a", x.gateOf(0, 1), 7);
        check.due("18: FIRST", x.gateOf(0, 2), 1);
        check.due("18: SECOND", x.gateOf(0, 3), 0);
        check.due("18: FIRST of 1", x.gateOf(1, 2), 1);
        check.due("18: no SECOND of 1", x.gateOf(1, 3), -1);
        check.due("18: shared", x.gateOf(2, 4), 1);
        check.due("18: colour", x.cartOf(0, 0), 1);
        check.due("18: place", x.cartOf(0, 1), 3);
        check.due("18: place of the other", x.cartOf(1, 1), 0);
        check.due("18: more is read to it", Check.read(x, "forget 2; gate 0 1; cart 0 at 4"), 3);
        check.due("18: forgotten", x.gateOf(1, 2), -1);
        check.due("18: the shared one stays shared", x.gateOf(2, 4), 1);
        check.due("18: gates then", x.status(0), 4);
        check.due("18: forget both", Check.read(x, "forget 0"), 1);
        check.due("18: FIRST forgotten", x.gateOf(0, 2), -1);
        check.due("18: SECOND forgotten", x.gateOf(0, 3), -1);
        check.due("18: sharing again", Check.read(x, "share 2 1; share 2 0"), 2);
    }

    /** A yard that is read and one that calls made are alike. */
    private static void sameAsByCalls() {
        String[] texts = {
            "colours 2", "gate 5 9", "gate 0 0 knows 2", "gate 4 9 knows 0 knows 2", "cart 2", "cart 0 at 0",
            "colours 2; gate 3 8 knows 1 knows 1; cart 1 at 1; cart 0 at 0",
            "gate 1 0; gate 1 1; gate 2 2; gate 3 3; gate 4 4; gate 5 5; cart 0; cart 1; cart 2; cart 0; cart 1; cart 2 at 6",
            "cart 0; gate 1 0; cart 1 at 1; gate 2 0 knows 1; share 1 0; gate 3 0 knows 2 knows 1; share 2 0; cart 2 at 3"};
        for (String text : texts) {
            boolean same = Check.state(readYard(text)).equals(Check.state(Check.yard(text)));
            check.due("18: '" + text + "' as by calls", same ? 1 : 0, 1);
        }
        RefusedLast x = new RefusedLast();
        x.cart(0);
        check.due("18: a gate for one that is out", Check.read(x, "gate 1 0"), 1);
        check.due("18: it stands ahead of it", x.cartOf(0, 2), 0);
        check.due("18: a second gate knows nothing", Check.read(x, "gate 1 0"), 1);
        check.due("18: no FIRST", x.gateOf(1, 2), -1);
        check.due("18: no SECOND", x.gateOf(1, 3), -1);
        check.due("18: its own", x.gateOf(1, 4), 1);
    }

    /** What each byte is, behind a NUMBER and between a WORD and a NUMBER. */
    private static void everyByte() {
        for (int b = 0; b < 256; b++) {
            boolean letter = b >= 97 && b <= 122;
            boolean digit = b >= 48 && b <= 57;
            int behind = b == 32 ? 1 : b == 59 ? -30 : digit ? -28 : -29;
            read("colours 2" + (char) b, behind);
            int between = b == 32 || b == 48 ? 1 : letter ? -20 : -27;
            read("colours" + (char) b + "2", between);
            int ahead = b == 32 ? 1 : -20;
            read((char) b + "colours 2", ahead);
        }
    }

    /** WORDS with one other letter, one more or one less can't stand. */
    private static void wordsAreWhole() {
        String[] texts = {"^colours 2", "^gate 0 0", "^cart 0", "gate 0 0 ^knows 1", "gate 0 0 knows 1 ^knows 1",
            "cart 0 ^at 0", "gate 0 0;gate 0 0;^share 1 0", "gate 0 0;^forget 0"};
        for (String text : texts) {
            int at = text.indexOf('^');
            String ahead = text.substring(0, at);
            String behind = text.substring(text.indexOf(' ', at));
            String word = text.substring(at + 1, text.length() - behind.length());
            check.due("18: " + word, Check.read(new RefusedLast(), ahead + word + behind) > 0 ? 1 : 0, 1);
            for (int i = 0; i < word.length(); i++) {
                String other = word.substring(0, i) + (char) (word.charAt(i) - 1) + word.substring(i + 1);
                fault(ahead + "^" + other + behind);
                fault(ahead + "^" + word.substring(0, i) + "z" + word.substring(i + 1) + behind);
                fault(ahead + "^" + word.substring(0, i) + word.substring(i + 1) + behind);
            }
            fault(ahead + "^" + word + "s" + behind);
            fault(ahead + "^x" + word + behind);
        }
    }

    /** Bytes of an earlier text, behind the end of THE TAPE, are none of it. */
    private static void whatWasThereAhead() {
        String[][] texts = {{"gates", "gate", "-24"}, {"colours 22", "colours 2", "1"}, {"cart 0;cart 0", "cart 0", "1"},
            {"cart 0 at 0", "cart 0 a", "-27"}, {"cart 0 at 0", "cart 0 at", "-29"}, {"cart 0;", "cart 0", "1"}};
        for (String[] text : texts) {
            RefusedLast x = new RefusedLast();
            Check.feed(x, text[0]);
            x.wipe();
            check.due("18: '" + text[1] + "' behind '" + text[0] + "'", Check.read(x, text[1]), Integer.parseInt(text[2]));
        }
    }

    private static void faultsOfForm() {
        fault("^");
        fault("   ^");
        fault("^;");
        fault("colours 2;^");
        fault("colours 2; ^;");
        fault("colours 2  ;  ^");
        fault("^colour 2");
        fault("^colourss 2");
        fault("^gatez 0 0");
        fault("^Gate 0 0");
        fault("^gates 0 0");
        fault("^7");
        fault("^knows 1");
        fault("^at 1");
        fault("^-");
        fault("colours^");
        fault("cart ^");
        fault("share^");
        fault("forget ^");
        fault("gate 1 0 knows 1 knows ^");
        fault("colours ^gate");
        fault("share ^gate");
        fault("forget ^;");
        fault("gate^");
        fault("gate 1  ^");
        fault("gate 1 ^;");
        fault("gate 1 ^knows 1");
        fault("gate ^-1 0");
        fault("gate 1 0 ^cart 0");
        fault("gate 1 0 ^0");
        fault("gate 1 0 knows^");
        fault("gate 1 0 knows ^knows 1");
        fault("gate 1 0 knows 1 knows 2 ^knows 0");
        fault("gate 1 0 ^at 0");
        fault("cart 0 ^knows 1");
        fault("cart 0 at^");
        fault("cart 0 at 0 ^at 0");
        fault("cart ^at 0");
        fault("gate 1 0^\t");
        fault("gate 1 0;share 0^");
        fault("gate 1 0;forget^");
        fault("gate 1 0;forget 0 ^0");
        fault("colours 2^.");
        fault("colours 2" + ";colours 3" + "^#;gate 9 9");
    }

    private static void faultsOfNumbers() {
        fault("colours ^1");
        fault("colours ^4");
        fault("colours ^003");
        fault("colours ^22");
        fault("gate ^6 0");
        fault("gate ^10");
        fault("gate ^000 0");
        fault("gate 0 ^10");
        fault("gate 0 ^009");
        fault("gate 1 0 knows ^3");
        fault("colours 2;gate 1 0 knows 1 knows ^2");
        fault("cart ^3");
        fault("colours 2;cart ^2");
        fault("cart 0 at ^1");
        fault("cart 0 at 0;gate 0 0;cart 1 at 1;cart 1 at ^2");
        fault("forget ^0");
        fault("gate 0 0;forget ^1");
        fault("gate 0 0;forget ^000");
        fault("cart 0 at ^99999999999999999999");
        fault("cart 0 at ^000");
        fault("cart ^000");
        fault("gate 0 ^000");
        fault("gate ^005 0");
        fault("gate 0 0 knows ^000");
        fault("gate 0 0 knows 0 knows ^000");
        fault("gate 0 0 knows 0 knows ^3");
        fault("gate 0 0 knows ^10");
        fault("cart ^10");
        fault("forget ^10");
        fault("colours 02;colours ^0");
        fault("gate ^99 0");
        fault("gate 0 ^99");
        read("gate 05 09 knows 02 knows 02", 1);
        read("colours 03;colours 02", 2);
        read("cart 02 at 00", 1);
        read("gate 0 0;forget 00", 2);
    }

    private static void faultsOfRoom() {
        fault("gate 0 0;^colours 3");
        fault("cart 0;^colours 9");
        fault("gate 0 0;gate 0 0;gate 0 0;gate 0 0;gate 0 0;gate 0 0; ^gate 9");
        fault("cart 0;cart 0;cart 0;cart 0;cart 0;cart 0;^cart 9");
        RefusedLast x = new RefusedLast();
        x.cart(0);
        check.due("18: colours with a cart there", Check.read(x, "colours 2"), -20);
        for (int i = 0; i < 5; i++) {
            x.cart(0);
            x.gate(0, 0);
        }
        check.due("18: room for one gate, none for a cart", Check.read(x, "gate 0 0 ; cart 0"), -31);
        check.due("18: nothing came", x.status(0), 5);
        check.due("18: room for one gate", Check.read(x, "gate 0 0"), 1);
    }

    private static void faultsOfShares() {
        fault("share ^0 0");
        fault("gate 1 0;share ^1 0");
        fault("gate 1 0;share 0 ^0");
        fault("gate 1 0;gate 1 0;share 1 ^1");
        fault("gate 1 0;gate 1 0;gate 1 0;share 1 ^2");
        fault("gate 1 0;gate 1 0;share ^2 0");
        fault("gate 1 0;gate 1 0;share ^001 0");
        fault("gate 1 0;gate 1 0;share 1 ^000");
        fault("gate 1 0;gate 1 0;share 1 ^99");
        fault("gate 1 0;gate 1 0;share 1^");
        fault("gate 1 0;gate 1 0;share 1 ^;");
        fault("gate 1 0;gate 1 0;share 1 0 ^0");
        read("gate 1 0;gate 1 0;share 01 00", 3);
        fault("gate 1 0;gate 1 0;gate 1 0;share 1 0;share 2 ^1");
        fault("gate 1 0;gate 1 0;gate 1 0;share 2 1;share 1 ^0");
        read("gate 1 0;gate 1 0;gate 1 0;share 2 0;share 1 0;share 1 0", 6);
    }

    private static void allOrNothing() {
        RefusedLast x = Check.yard("gate 1 0 knows 2; gate 2 0; cart 1");
        check.due("18: fault at the end", Check.read(x, "gate 1 0; cart 1; share 1 0; forget 0; cart 9"), -64);
        check.due("18: gates", x.status(0), 2);
        check.due("18: carts", x.status(1), 1);
        check.due("18: own memory", x.gateOf(1, 4), 1);
        check.due("18: not forgotten", x.gateOf(0, 2), 2);
        x.tries(0);
        check.due("18: read behind a try", Check.read(x, "cart 0"), 1);
        check.due("18: tries stay", x.status(4), 1);
        check.due("18: scratches stay", x.status(5), 1);
    }
}
