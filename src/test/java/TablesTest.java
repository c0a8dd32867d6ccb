/** Promises 12 to 17 and 20 in ordinary use; their boundary cases are in Edges12To21Test and EdgesOfTermsTest. */
public final class TablesTest {
    public static void main(String[] args) {
        Suite.run(TablesTest.class);
    }

    static void promise12_theChanceFollowsWhatCame(Due due) {
        ContextMix x = Runs.with(6, 0, 0);
        due.is("at first", x.chance(0), 2047);
        Runs.writeSame(x, 255, 2);
        due.holds("a 1 is likelier", x.chance(0) > 2047);
        ContextMix y = Runs.with(6, 0, 0);
        Runs.writeSame(y, 0, 2);
        due.holds("a 0 is likelier", y.chance(0) < 2047);
    }

    static void promise12_bothSidesTellAlike(Due due) {
        ContextMix x = Runs.with(9, 0, 1, 1, 0, 2, 3, 4, 3);
        String text = "each tells, each tells";
        int[] chances = new int[text.length()];
        for (int k = 0; k < text.length(); k++) {
            chances[k] = x.chance(0);
            x.octet(text.charAt(k));
        }
        x.end();
        for (int k = 0; k < text.length(); k++) {
            due.is("chance(1) before byte " + k, x.chance(1), chances[k]);
            x.get();
        }
        due.is("chance(1) behind the last", x.chance(1), x.chance(0));
    }

    static void promise13_theInputIsTheStretchOfASlot(Due due) {
        ContextMix x = Runs.with(12, 0, 0);
        due.is("at first, of 32,768 / 16", x.input(0, 0), x.stretch(2048));
        x.octet(255);
        due.is("behind a 1, of 49,151 / 16", x.input(0, 0), x.stretch(3071));
        due.is("side 1 has read nothing", x.input(1, 0), x.stretch(2048));
    }

    static void promise13_aMatchTellsTheByteBehindIt(Due due) {
        ContextMix x = Runs.with(6, 4, 3);
        Runs.write(x, "abcXabc");
        // X is 01011000.
        boolean[] bits = {false, true, false, true, true, false, false, false};
        for (boolean on : bits) {
            due.is("three bytes tell X", x.input(0, 0), on ? 192 : -192);
            x.bit(on);
        }
        due.is("four bytes tell a", x.input(0, 0), -256);
        x.bit(false);
        due.is("its next bit", x.input(0, 0), 256);
    }

    static void promise13_contextsBehindAText(Due due) {
        String text = "x1Incomprehensible";
        int[] h = text.chars().toArray();
        int last = h.length - 1;
        Runs.hasContext(due, text, 0, 3, 4, 0, h[last], h[last - 1], h[last - 2]);
        int[] word = new int[18];
        word[0] = 32;
        System.arraycopy(h, 2, word, 2, 16);
        Runs.hasContext(due, text, 1, 0, word);
        Runs.hasContext(due, text, 2, 5, 69, 0, h.length % 5, h[h.length - 5]);
        Runs.hasContext(due, text, 3, 10, 138, 0, h[last - 1], h[last - 3]);
    }

    static void promise14_rowsOfTheNodeAndOfTheLatestByte(Due due) {
        ContextMix x = new ContextMix(6);
        x.octet('a');
        due.holds("row of NODE 1", x.weight(0, 0, 1, 0) != 0);
        due.is("row of a NODE that was not", x.weight(0, 0, 'a', 0), 0);
        due.holds("row of the byte before, 0", x.weight(0, 1, 0, 0) != 0);
        due.is("row of the latest byte", x.weight(0, 1, 'a', 0), 0);
        x.bit(true);
        due.holds("now it was the latest", x.weight(0, 1, 'a', 0) > 0);
        due.is("side 1 has read nothing", x.weight(1, 0, 1, 0), 0);
    }

    static void promise15And16_aSlotBehindBits(Due due) {
        ContextMix x = Runs.with(12, 0, 0);
        int first = Runs.slotOf(4096, 1, 1, 0);
        int second = Runs.slotOf(4096, 3, 1, 0);
        due.is("chance at first", x.slot(0, first), 32768);
        due.is("COUNT at first", x.seen(0, first), 0);
        Runs.bits(x, "10");
        due.is("chance behind a 1", x.slot(0, first), 49151);
        due.is("COUNT behind a bit", x.seen(0, first), 1);
        due.is("chance behind a 0", x.slot(0, second), 16384);
        due.is("side 1 has read nothing", x.slot(1, first), 32768);
        Runs.bits(x, "0000001");
        // 49,151 + 16,384 times 21,845 / 65,536.
        due.is("chance behind a second 1", x.slot(0, first), 54612);
        due.is("COUNT behind a second bit", x.seen(0, first), 2);
    }

    static void promise17_theCellsAtFirst(Due due) {
        ContextMix x = new ContextMix(6);
        for (int node = 0; node < 256; node++) {
            for (int j = 0; j <= 32; j++) {
                int first = x.squash((j - 16) * 128) * 16;
                due.is("cell(0, " + node + ", " + j + ")", x.cell(0, node, j), (short) first);
                due.is("cell(1, " + node + ", " + j + ")", x.cell(1, node, j), (short) first);
            }
        }
    }

    static void promise17_oneCellForABit(Due due) {
        ContextMix x = new ContextMix(6);
        x.bit(true);
        due.is("with sign", x.cell(0, 1, 16), -32528);
        due.is("the others stay", x.cell(0, 1, 17), (short) (2549 * 16));
        due.is("other nodes stay", x.cell(0, 3, 16), 32752);
        due.is("side 1 has read nothing", x.cell(1, 1, 16), 32752);
    }

    static void promise20_equalWhenAllIsRead(Due due) {
        ContextMix x = Runs.with(8, 0, 1, 4, 3);
        Runs.write(x, "ab");
        due.is("written, not read", x.equal(), 0);
        x.end();
        x.get();
        due.is("one was read", x.equal(), 0);
        x.get();
        due.is("both were read", x.equal(), 1);
        x.again();
        due.is("begins anew", x.equal(), 0);
        x.clear();
        due.is("both begin anew", x.equal(), 1);
    }

    /** "a reader takes back what a writer wrote, and has the same tables behind each bit". */
    static void promise20_theReaderFollowsTheWriter(Due due) {
        int[] predictors = {0, 1, 0, 2, 1, 0, 2, 4, 3, 5, 4, 3};
        String text = "each tells what each tells";
        ContextMix x = Runs.with(7, predictors);
        ContextMix writes = Runs.with(7, predictors);
        Runs.write(x, text);
        x.end();
        for (int k = 0; k <= text.length(); k++) {
            sameSide(due, "behind " + k + " bytes", x, writes);
            if (k < text.length()) {
                due.is("get() of byte " + k, x.get(), text.charAt(k));
                writes.octet(text.charAt(k));
            }
        }
    }

    /** Side 1 of the one has what side 0 of the other has. */
    private static void sameSide(Due due, String what, ContextMix reads, ContextMix writes) {
        due.is("chance " + what, reads.chance(1), writes.chance(0));
        for (int i = 0; i < writes.count(0); i++) {
            due.is("input " + i + " " + what, reads.input(1, i), writes.input(0, i));
        }
        for (int i = 0; i < writes.count(5); i++) {
            due.is("slot " + i + " " + what, reads.slot(1, i), writes.slot(0, i));
            due.is("seen " + i + " " + what, reads.seen(1, i), writes.seen(0, i));
        }
        for (int set = 0; set < 256; set++) {
            for (int i = 0; i <= writes.count(0); i++) {
                due.is("by node " + what, reads.weight(1, 0, set, i), writes.weight(0, 0, set, i));
                due.is("by latest byte " + what, reads.weight(1, 1, set, i), writes.weight(0, 1, set, i));
            }
            for (int j = 0; j <= 32; j++) {
                due.is("cell " + what, reads.cell(1, set, j), writes.cell(0, set, j));
            }
        }
    }
}
