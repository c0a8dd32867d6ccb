/** What several tests do with an object. */
final class Runs {
    private Runs() {
    }

    static ContextMix with(int room, int... kindsAndNs) {
        ContextMix x = new ContextMix(room);
        for (int k = 0; k + 1 < kindsAndNs.length; k += 2) {
            x.predictor(kindsAndNs[k], kindsAndNs[k + 1]);
        }
        return x;
    }

    /** So many predictors of kind 0 and n: they share every SLOT, so each bit moves it as many times. */
    static ContextMix withSame(int room, int predictors, int n) {
        ContextMix x = new ContextMix(room);
        for (int k = 0; k < predictors; k++) {
            x.predictor(0, n);
        }
        return x;
    }

    static void write(ContextMix x, String text) {
        for (int k = 0; k < text.length(); k++) {
            x.octet(text.charAt(k));
        }
    }

    static void writeSame(ContextMix x, int b, int times) {
        for (int k = 0; k < times; k++) {
            x.octet(b);
        }
    }

    /** How many bytes OUT has behind the last of these bits. */
    static int bits(ContextMix x, String bits) {
        int size = 0;
        for (int k = 0; k < bits.length(); k++) {
            size = x.bit(bits.charAt(k) == '1');
        }
        return size;
    }

    static void reads(Due due, ContextMix x, String text) {
        for (int k = 0; k < text.length(); k++) {
            due.is("get() of '" + text.charAt(k) + "'", x.get(), text.charAt(k));
        }
    }

    /** Makes byte i of OUT this one. */
    static void setOut(ContextMix x, int i, int b) {
        if (x.out(i) != b) {
            x.spoil(i, x.out(i) ^ b);
        }
    }

    /** What slot() answers, or PlainMix.THROWS for the document's exception. */
    static int slotOrThrows(ContextMix x, int side, int i) {
        try {
            return x.slot(side, i);
        } catch (ArrayIndexOutOfBoundsException e) {
            return PlainMix.THROWS;
        }
    }

    /** The number of a SLOT, by the document's HASH of a row and NODE. */
    static int slotOf(int slots, int node, int... row) {
        int h = PlainMix.hash(row[0], row[1]);
        for (int k = 2; k < row.length; k++) {
            h = PlainMix.hash(h, row[k]);
        }
        return PlainMix.hash(h, node) & slots - 1;
    }

    /** Behind the text a predictor's CONTEXT is the HASH of this row: its SLOT is the one that a bit changes. */
    static void hasContext(Due due, String text, int kind, int n, int... row) {
        ContextMix x = with(12, kind, n);
        write(x, text);
        int slot = slotOf(4096, 1, row);
        int before = x.seen(0, slot);
        String what = " of kind " + kind + ", n " + n + " behind '" + text + "'";
        due.is("INPUT" + what, x.input(0, 0), x.stretch(x.slot(0, slot) / 16));
        x.bit(true);
        due.is("COUNT of the SLOT" + what, x.seen(0, slot), Math.min(30, before + 1));
    }

    /** All that an object lets be seen, but for the rows of its larger tables that no short run comes to. */
    static void same(Due due, String what, ContextMix x, ContextMix other) {
        for (int k = 0; k < 8; k++) {
            due.is(what + ": count(" + k + ")", x.count(k), other.count(k));
        }
        for (int k = 0; k <= other.count(3); k++) {
            due.is(what + ": out(" + k + ")", x.out(k), other.out(k));
        }
        due.is(what + ": equal()", x.equal(), other.equal());
        for (int side = 0; side < 2; side++) {
            due.is(what + ": chance(" + side + ")", x.chance(side), other.chance(side));
            for (int i = 0; i <= 8; i++) {
                due.is(what + ": input(" + side + ", " + i + ")", x.input(side, i), other.input(side, i));
                due.is(what + ": weight of NODE 1, " + i, x.weight(side, 0, 1, i), other.weight(side, 0, 1, i));
                due.is(what + ": weight of byte 0, " + i, x.weight(side, 1, 0, i), other.weight(side, 1, 0, i));
            }
            for (int j = 0; j <= 32; j++) {
                due.is(what + ": cell(" + side + ", 1, " + j + ")", x.cell(side, 1, j), other.cell(side, 1, j));
            }
            for (int i = 0; i < other.count(5); i++) {
                due.is(what + ": slot(" + side + ", " + i + ")", x.slot(side, i), other.slot(side, i));
                due.is(what + ": seen(" + side + ", " + i + ")", x.seen(side, i), other.seen(side, i));
            }
        }
    }
}
