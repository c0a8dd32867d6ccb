/** Promises 12 to 17 and 20: what an object lets be seen of its tables. */
public final class TablesTest {
    private static final int BAD = ContextMix.BAD;
    private static final int[] NO_SIDE = {-1, 2, Integer.MIN_VALUE, Integer.MAX_VALUE};
    private static final Due DUE = new Due("TablesTest");

    public static void main(String[] args) {
        chance();
        input();
        inputOfMatch();
        contexts();
        weight();
        slotAndSeen();
        sharedSlots();
        countOfSlot();
        noSlot();
        cell();
        equal();
        DUE.end();
    }

    private static int slotOf(int context, int node, int slots) {
        return PlainMix.hash(context, node) & slots - 1;
    }

    private static void chance() {
        ContextMix x = new ContextMix(6);
        DUE.is("12: of nothing", x.chance(0), 2047);
        DUE.is("12: of nothing, side 1", x.chance(1), 2047);
        for (int side : NO_SIDE) {
            DUE.is("12: chance(" + side + ")", x.chance(side), BAD);
        }
        x.predictor(0, 0);
        DUE.is("12: with an INPUT of 0", x.chance(0), 2047);
        x.octet(255);
        x.octet(255);
        DUE.holds("12: 1 is likelier now", x.chance(0) > 2047);
        DUE.is("12: side 1 has read nothing", x.chance(1), 2047);
        int likely = x.chance(0);
        DUE.is("12: asking changes nothing", x.chance(0), likely);
        x.end();
        DUE.is("12: nor does end()", x.chance(0), likely);
        x.get();
        x.get();
        DUE.is("12: side 1 has read the same", x.chance(1), likely);
        ContextMix sure = new ContextMix(6);
        for (int k = 0; k < 8; k++) {
            sure.predictor(0, 0);
        }
        for (int k = 0; k < 300; k++) {
            sure.octet(0);
        }
        DUE.holds("12: 1 at least", sure.chance(0) >= 1 && sure.chance(0) < 20);
    }

    private static void input() {
        ContextMix x = new ContextMix(12);
        DUE.is("13: none yet", x.input(0, 0), -9999);
        x.predictor(0, 0);
        DUE.is("13: 32,768 / 16 is 2,048", x.input(0, 0), x.stretch(2048));
        x.octet(255);
        // Behind a 1 the chance is 49,151, of which STRETCH is told: 3,071.
        DUE.is("13: behind a 1", x.input(0, 0), x.stretch(3071));
        DUE.is("13: side 1 has read nothing", x.input(1, 0), x.stretch(2048));
        DUE.is("13: the last INPUT is no predictor's", x.input(0, 1), -9999);
        DUE.is("13: -1", x.input(0, -1), -9999);
        DUE.is("13: far", x.input(1, Integer.MAX_VALUE), -9999);
        for (int side : NO_SIDE) {
            DUE.is("13: input(" + side + ", 0)", x.input(side, 0), -9999);
        }
    }

    private static void inputOfMatch() {
        ContextMix x = new ContextMix(6);
        x.predictor(4, 3);
        DUE.is("13: no LENGTH", x.input(0, 0), 0);
        for (int k = 0; k < 7; k++) {
            x.octet("abcXabc".charAt(k));
        }
        // X is 01011000.
        boolean[] bits = {false, true, false, true, true, false, false, false};
        for (boolean on : bits) {
            DUE.is("13: three bytes tell X", x.input(0, 0), on ? 192 : -192);
            x.bit(on);
        }
        DUE.is("13: four bytes tell a", x.input(0, 0), -256);
        x.bit(false);
        DUE.is("13: the next bit of a", x.input(0, 0), 256);
        x.bit(false);
        for (int k = 2; k < 8; k++) {
            DUE.is("13: the bits are not those of a", x.input(0, 0), 0);
            x.bit(true);
        }
    }

    /** Each kind's CONTEXT behind a text, by the SLOT that its first bit takes. */
    private static void contexts() {
        String text = "x1Incomprehensibilities";
        int[] h = text.chars().toArray();
        int last = h.length - 1;
        context(text, 0, 0, 1, 0);
        context(text, 0, 3, 4, 0, h[last], h[last - 1], h[last - 2]);
        context(text, 0, 6, 7, 0, h[last], h[last - 1], h[last - 2], h[last - 3], h[last - 4], h[last - 5]);
        context("b", 0, 3, 4, 0, 'b', 0, 0);
        int[] word = new int[18];
        word[0] = 32;
        System.arraycopy(h, h.length - 16, word, 2, 16);
        context(text, 1, 0, word);
        context("x1Az{", 1, 7, 32, 0);
        context("x1azAZ", 1, 7, 32, 0, 'a', 'z', 'A', 'Z');
        context("q@a", 1, -7, 32, 0, 'a');
        context("q[a", 1, -7, 32, 0, 'a');
        context("q`a", 1, -7, 32, 0, 'a');
        context("Z", 1, -7, 32, 0, 'Z');
        context(text, 2, 5, 69, 0, h.length % 5, h[h.length - 5]);
        context(text, 2, 1, 65, 0, 0, h[last]);
        context("ab", 2, 64, 128, 0, 2, 0);
        context(text, 3, 1, 129, 0, h[last]);
        context(text, 3, 8, 136, 0, h[last - 3]);
        context(text, 3, 10, 138, 0, h[last - 1], h[last - 3]);
        context(text, 3, 15, 143, 0, h[last], h[last - 1], h[last - 2], h[last - 3]);
    }

    private static void context(String text, int kind, int n, int... row) {
        ContextMix x = new ContextMix(12);
        x.predictor(kind, n);
        for (int k = 0; k < text.length(); k++) {
            x.octet(text.charAt(k));
        }
        int context = PlainMix.hash(row[0], row[1]);
        for (int k = 2; k < row.length; k++) {
            context = PlainMix.hash(context, row[k]);
        }
        int slot = slotOf(context, 1, 4096);
        int before = x.seen(0, slot);
        DUE.is("13: INPUT of kind " + kind + ", n " + n, x.input(0, 0), x.stretch(x.slot(0, slot) / 16));
        x.bit(true);
        DUE.is("16: SLOT of kind " + kind + ", n " + n + " behind '" + text + "'", x.seen(0, slot), before + 1);
    }

    private static void weight() {
        ContextMix x = new ContextMix(6);
        DUE.is("14: the last one alone", x.weight(0, 0, 0, 0), 0);
        DUE.is("14: behind it", x.weight(0, 0, 0, 1), -2000000);
        x.predictor(0, 1);
        x.predictor(4, 5);
        for (int side = 0; side < 2; side++) {
            for (int mixer = 0; mixer < 2; mixer++) {
                int[] sets = {0, 1, 128, 255};
                for (int set : sets) {
                    DUE.is("14: of a predictor", x.weight(side, mixer, set, 0), 20000);
                    DUE.is("14: of the other", x.weight(side, mixer, set, 1), 20000);
                    DUE.is("14: the last one", x.weight(side, mixer, set, 2), 0);
                    DUE.is("14: none such", x.weight(side, mixer, set, 3), -2000000);
                    DUE.is("14: -1", x.weight(side, mixer, set, -1), -2000000);
                }
                DUE.is("14: set -1", x.weight(side, mixer, -1, 0), -2000000);
                DUE.is("14: set 256", x.weight(side, mixer, 256, 0), -2000000);
            }
            DUE.is("14: mixer -1", x.weight(side, -1, 0, 0), -2000000);
            DUE.is("14: mixer 2", x.weight(side, 2, 0, 0), -2000000);
        }
        for (int side : NO_SIDE) {
            DUE.is("14: weight(" + side + ", ..)", x.weight(side, 0, 0, 0), -2000000);
        }
        ContextMix y = new ContextMix(6);
        y.octet('a');
        DUE.holds("14: row of NODE 1", y.weight(0, 0, 1, 0) != 0);
        DUE.is("14: row of a NODE that was not", y.weight(0, 0, 'a', 0), 0);
        DUE.holds("14: row of the byte before, 0", y.weight(0, 1, 0, 0) != 0);
        DUE.is("14: row of the latest byte", y.weight(0, 1, 'a', 0), 0);
        y.bit(true);
        DUE.holds("14: now it was the latest", y.weight(0, 1, 'a', 0) > 0);
        DUE.is("14: side 1 has read nothing", y.weight(1, 0, 1, 0), 0);
    }

    private static void slotAndSeen() {
        ContextMix x = new ContextMix(12);
        x.predictor(0, 0);
        int first = slotOf(PlainMix.hash(1, 0), 1, 4096);
        DUE.is("15: at first", x.slot(0, first), 32768);
        DUE.is("16: at first", x.seen(0, first), 0);
        x.bit(true);
        DUE.is("15: behind a 1", x.slot(0, first), 49151);
        DUE.is("16: behind a bit", x.seen(0, first), 1);
        int second = slotOf(PlainMix.hash(1, 0), 3, 4096);
        x.bit(false);
        DUE.is("15: behind a 0", x.slot(0, second), 16384);
        DUE.is("15: the first stays", x.slot(0, first), 49151);
        DUE.is("15: side 1 has read nothing", x.slot(1, first), 32768);
        DUE.is("16: side 1 has read nothing", x.seen(1, first), 0);
        for (int k = 0; k < 6; k++) {
            x.bit(false);
        }
        x.bit(true);
        // 49,151 + 16,384 times 21,845 / 65,536.
        DUE.is("15: behind a second 1", x.slot(0, first), 54612);
        DUE.is("16: behind a second bit", x.seen(0, first), 2);
    }

    private static void sharedSlots() {
        ContextMix x = new ContextMix(12);
        x.predictor(0, 0);
        x.predictor(0, 0);
        x.bit(true);
        int first = slotOf(PlainMix.hash(1, 0), 1, 4096);
        DUE.is("15: changed by each", x.slot(0, first), 54612);
        DUE.is("16: counted by each", x.seen(0, first), 2);
    }

    private static void countOfSlot() {
        ContextMix x = new ContextMix(12);
        x.predictor(0, 0);
        int first = slotOf(PlainMix.hash(1, 0), 1, 4096);
        for (int k = 1; k <= 35; k++) {
            x.octet(255);
            DUE.is("16: 30 at most", x.seen(0, first), Math.min(k, 30));
        }
        DUE.holds("15: 16 bits without sign", x.slot(0, first) > 60000 && x.slot(0, first) <= 65535);
    }

    private static void noSlot() {
        for (int room = 6; room <= 12; room++) {
            ContextMix x = new ContextMix(room);
            int[] none = {-1, 1 << room, (1 << room) + 1, Integer.MIN_VALUE, Integer.MAX_VALUE};
            for (int side = 0; side < 2; side++) {
                for (int i : none) {
                    DUE.is("15: slot(" + side + ", " + i + ") throws", thrown(x, side, i), 1);
                    DUE.is("16: seen(" + side + ", " + i + ")", x.seen(side, i), BAD);
                }
                DUE.is("15: the last", x.slot(side, (1 << room) - 1), 32768);
                DUE.is("15: the first", x.slot(side, 0), 32768);
                DUE.is("16: the last", x.seen(side, (1 << room) - 1), 0);
            }
            for (int side : NO_SIDE) {
                DUE.is("15: slot(" + side + ", 0)", x.slot(side, 0), BAD);
                DUE.is("15: slot(" + side + ", -1), no side", x.slot(side, -1), BAD);
                DUE.is("16: seen(" + side + ", 0)", x.seen(side, 0), BAD);
            }
        }
    }

    /** 1 if exactly the exception of the document is thrown, by the class itself and not by the machine. */
    private static int thrown(ContextMix x, int side, int i) {
        try {
            x.slot(side, i);
        } catch (RuntimeException e) {
            boolean own = e.getMessage() == null || !e.getMessage().startsWith("Index ");
            return e.getClass() == ArrayIndexOutOfBoundsException.class && own ? 1 : 0;
        }
        return 0;
    }

    private static void cell() {
        ContextMix x = new ContextMix(6);
        for (int side = 0; side < 2; side++) {
            int[] nodes = {0, 1, 77, 255};
            for (int node : nodes) {
                for (int j = 0; j <= 32; j++) {
                    int first = x.squash((j - 16) * 128) * 16;
                    DUE.is("17: cell(" + side + ", " + node + ", " + j + ")", x.cell(side, node, j), (short) first);
                }
                DUE.is("17: j -1", x.cell(side, node, -1), 40000);
                DUE.is("17: j 33", x.cell(side, node, 33), 40000);
            }
            DUE.is("17: node -1", x.cell(side, -1, 0), 40000);
            DUE.is("17: node 256", x.cell(side, 256, 0), 40000);
        }
        DUE.is("17: the least", x.cell(0, 1, 0), 0);
        DUE.is("17: the greatest, 65,520", x.cell(0, 1, 32), -16);
        DUE.is("17: below the sign", x.cell(0, 1, 16), 32752);
        for (int side : NO_SIDE) {
            DUE.is("17: cell(" + side + ", 1, 1)", x.cell(side, 1, 1), 40000);
        }
        x.bit(true);
        DUE.is("17: with sign", x.cell(0, 1, 16), -32528);
        DUE.is("17: the others stay", x.cell(0, 1, 17), (short) (2549 * 16));
        DUE.is("17: other nodes stay", x.cell(0, 3, 16), 32752);
        DUE.is("17: side 1 has read nothing", x.cell(1, 1, 16), 32752);
    }

    private static void equal() {
        ContextMix x = new ContextMix(8);
        DUE.is("20: both new", x.equal(), 1);
        x.predictor(0, 1);
        x.predictor(4, 3);
        DUE.is("20: predictors are both sides'", x.equal(), 1);
        x.bit(true);
        DUE.is("20: a bit was written", x.equal(), 0);
        for (int k = 0; k < 7; k++) {
            x.bit(false);
        }
        x.octet('b');
        x.end();
        DUE.is("20: nothing was read", x.equal(), 0);
        x.get();
        DUE.is("20: one was read", x.equal(), 0);
        x.get();
        DUE.is("20: both were read", x.equal(), 1);
        x.again();
        DUE.is("20: begins anew", x.equal(), 0);
        x.clear();
        DUE.is("20: both begin anew", x.equal(), 1);
    }
}
