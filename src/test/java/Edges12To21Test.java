/** Promises 12 to 21: a test of its own for each sentence that names a boundary case. */
public final class Edges12To21Test {
    private static final int BAD = ContextMix.BAD;
    private static final int BAD_INPUT = -9999, BAD_WEIGHT = -2000000, BAD_CELL = 40000;
    private static final int LEAST = Integer.MIN_VALUE, MOST = Integer.MAX_VALUE;
    private static final int[] NO_SIDE = {-1, 2, 3, 256, LEAST, LEAST + 1, MOST};

    public static void main(String[] args) {
        Suite.run(Edges12To21Test.class);
    }

    // Promise 12: "THE CHANCE of a side's next bit. BAD: no such side."

    static void promise12_noSuchSide(Due due) {
        ContextMix x = Runs.with(6, 0, 0);
        for (int side : NO_SIDE) {
            due.is("chance(" + side + ")", x.chance(side), BAD);
        }
    }

    static void promise12_ofANewObject(Due due) {
        ContextMix x = new ContextMix(6);
        due.is("chance(0)", x.chance(0), 2047);
        due.is("chance(1)", x.chance(1), 2047);
    }

    static void promise12_behindTheLastByte(Due due) {
        ContextMix x = Runs.with(6, 0, 0);
        x.octet(255);
        int chance = x.chance(0);
        due.holds("a 1 is likelier", chance > 2047);
        x.end();
        due.is("chance(0) behind end()", x.chance(0), chance);
        due.is("chance(1) before it reads", x.chance(1), 2047);
        x.get();
        due.is("chance(1) when all is read", x.chance(1), chance);
    }

    static void promise12_askingChangesNothing(Due due) {
        ContextMix x = Runs.with(6, 0, 0, 4, 3);
        ContextMix twin = Runs.with(6, 0, 0, 4, 3);
        String text = "abcabcabc";
        for (int k = 0; k < text.length(); k++) {
            x.chance(0);
            x.chance(1);
            x.input(1, 0);
            due.is("octet", x.octet(text.charAt(k)), twin.octet(text.charAt(k)));
        }
        Runs.same(due, "as if not asked", x, twin);
    }

    // Promise 13: "The INPUT of a predictor for a side's next bit. BAD (- 9,999): none such."

    static void promise13_noSuchPredictor(Due due) {
        ContextMix x = new ContextMix(6);
        due.is("input(0, 0) without predictors", x.input(0, 0), BAD_INPUT);
        x.predictor(0, 0);
        x.predictor(1, 0);
        int[] none = {-1, 2, 7, 8, 9, 256, LEAST, MOST};
        for (int side = 0; side < 2; side++) {
            for (int i : none) {
                due.is("input(" + side + ", " + i + ")", x.input(side, i), BAD_INPUT);
            }
            due.is("the first", x.input(side, 0), x.stretch(2048));
            due.is("the last", x.input(side, 1), x.stretch(2048));
        }
    }

    static void promise13_theLastInputIsNoPredictors(Due due) {
        ContextMix x = Runs.withSame(12, 8, 0);
        due.is("input(0, 7)", x.input(0, 7), x.stretch(2048));
        due.is("input(0, 8)", x.input(0, 8), BAD_INPUT);
    }

    static void promise13_noSuchSide(Due due) {
        ContextMix x = Runs.with(6, 0, 0);
        for (int side : NO_SIDE) {
            due.is("input(" + side + ", 0)", x.input(side, 0), BAD_INPUT);
            due.is("input(" + side + ", 1)", x.input(side, 1), BAD_INPUT);
        }
    }

    static void promise13_anOffPredictorIsSuch(Due due) {
        ContextMix x = Runs.with(12, 0, 0);
        x.off(0);
        x.octet(255);
        due.is("input(0, 0)", x.input(0, 0), 0);
    }

    // Promise 14: "Weight i (of the predictors, then the last one) of row set (0 .. 255) of a MIXER of a side.
    // BAD (- 2,000,000): none such."

    static void promise14_noSuchSide(Due due) {
        ContextMix x = Runs.with(6, 0, 0);
        for (int side : NO_SIDE) {
            due.is("weight(" + side + ", 0, 1, 0)", x.weight(side, 0, 1, 0), BAD_WEIGHT);
        }
    }

    static void promise14_noSuchMixer(Due due) {
        ContextMix x = Runs.with(6, 0, 0);
        int[] none = {-1, 2, 256, LEAST, MOST};
        for (int mixer : none) {
            due.is("weight(0, " + mixer + ", 1, 0)", x.weight(0, mixer, 1, 0), BAD_WEIGHT);
        }
        due.is("the first", x.weight(0, 0, 1, 0), 20000);
        due.is("the second", x.weight(0, 1, 1, 0), 20000);
    }

    static void promise14_noSuchRow(Due due) {
        ContextMix x = Runs.with(6, 0, 0);
        int[] none = {-1, 256, 257, 511, LEAST, MOST};
        for (int side = 0; side < 2; side++) {
            for (int mixer = 0; mixer < 2; mixer++) {
                for (int set : none) {
                    due.is("set " + set, x.weight(side, mixer, set, 0), BAD_WEIGHT);
                }
                due.is("set 0", x.weight(side, mixer, 0, 0), 20000);
                due.is("set 255", x.weight(side, mixer, 255, 0), 20000);
            }
        }
    }

    static void promise14_noSuchWeight(Due due) {
        for (int predictors = 0; predictors <= 8; predictors++) {
            ContextMix x = Runs.withSame(12, predictors, 1);
            int[] none = {-1, predictors + 1, 10, 256, LEAST, MOST};
            for (int i : none) {
                due.is("weight " + i + " with " + predictors, x.weight(0, 0, 255, i), BAD_WEIGHT);
            }
            for (int i = 0; i < predictors; i++) {
                due.is("weight " + i + " with " + predictors, x.weight(0, 0, 255, i), 20000);
            }
        }
    }

    static void promise14_theLastOneIsBehindThePredictors(Due due) {
        for (int predictors = 0; predictors <= 8; predictors++) {
            ContextMix x = Runs.withSame(12, predictors, 1);
            due.is("the last of " + predictors, x.weight(0, 0, 1, predictors), 0);
            // MIXED is 2,047 whatever the predictors: their INPUT is 1 at most; the error is 2,048 times 7 or near it.
            x.bit(true);
            due.is("it learns of the INPUT 256", x.weight(0, 0, 1, predictors), 56);
        }
    }

    // Promise 15: "The chance of a SLOT. ArrayIndexOutOfBoundsException: no such SLOT. BAD: no such side."

    /** Whether exactly the exception of the document is thrown, by the class itself and not by the machine. */
    private static boolean throwsItsOwn(ContextMix x, int side, int i) {
        try {
            x.slot(side, i);
        } catch (RuntimeException e) {
            boolean own = e.getMessage() == null || !e.getMessage().startsWith("Index ");
            return e.getClass() == ArrayIndexOutOfBoundsException.class && own;
        }
        return false;
    }

    static void promise15_noSuchSlot(Due due) {
        for (int room = 6; room <= 12; room++) {
            ContextMix x = new ContextMix(room);
            int[] none = {-1, 1 << room, (1 << room) + 1, 4096, 65536, LEAST, MOST};
            for (int side = 0; side < 2; side++) {
                for (int i : none) {
                    due.holds("slot(" + side + ", " + i + ") throws", throwsItsOwn(x, side, i));
                }
            }
        }
    }

    static void promise15_theFirstAndTheLastSlot(Due due) {
        for (int room = 6; room <= 12; room++) {
            ContextMix x = new ContextMix(room);
            for (int side = 0; side < 2; side++) {
                due.is("the first", Runs.slotOrThrows(x, side, 0), 32768);
                due.is("the last", Runs.slotOrThrows(x, side, (1 << room) - 1), 32768);
            }
        }
    }

    static void promise15_noSuchSide(Due due) {
        ContextMix x = new ContextMix(6);
        for (int side : NO_SIDE) {
            due.is("slot(" + side + ", 0)", Runs.slotOrThrows(x, side, 0), BAD);
            due.is("slot(" + side + ", 63)", Runs.slotOrThrows(x, side, 63), BAD);
        }
    }

    /** The document does not say which of the two it is; without a side there is no table to look for a SLOT in. */
    static void promise15_neitherSideNorSlotIsBad(Due due) {
        ContextMix x = new ContextMix(6);
        for (int side : NO_SIDE) {
            due.is("slot(" + side + ", 64)", Runs.slotOrThrows(x, side, 64), BAD);
            due.is("slot(" + side + ", -1)", Runs.slotOrThrows(x, side, -1), BAD);
        }
    }

    static void promise15_throwingChangesNothing(Due due) {
        ContextMix x = Runs.with(6, 0, 0);
        ContextMix twin = Runs.with(6, 0, 0);
        x.octet(77);
        twin.octet(77);
        throwsItsOwn(x, 0, 64);
        throwsItsOwn(x, 1, -1);
        Runs.same(due, "behind the exception", x, twin);
    }

    // Promise 16: "The COUNT of a SLOT. BAD: none such."

    static void promise16_noneSuch(Due due) {
        for (int room = 6; room <= 12; room++) {
            ContextMix x = new ContextMix(room);
            int[] none = {-1, 1 << room, (1 << room) + 1, 4096, 65536, LEAST, MOST};
            for (int side = 0; side < 2; side++) {
                for (int i : none) {
                    due.is("seen(" + side + ", " + i + ")", x.seen(side, i), BAD);
                }
                due.is("the first", x.seen(side, 0), 0);
                due.is("the last", x.seen(side, (1 << room) - 1), 0);
            }
            for (int side : NO_SIDE) {
                due.is("seen(" + side + ", 0)", x.seen(side, 0), BAD);
                due.is("seen(" + side + ", -1)", x.seen(side, -1), BAD);
            }
        }
    }

    // Promise 17: "Cell C(node, j) (node 0 .. 255), as a number of 16 bits with sign (that less 65,536 above
    // 32,767). BAD (40,000): none such."

    static void promise17_noSuchNode(Due due) {
        ContextMix x = new ContextMix(6);
        int[] none = {-1, 256, 257, LEAST, MOST};
        for (int node : none) {
            due.is("cell(0, " + node + ", 16)", x.cell(0, node, 16), BAD_CELL);
            due.is("cell(1, " + node + ", 0)", x.cell(1, node, 0), BAD_CELL);
        }
        due.is("the first", x.cell(0, 0, 16), 32752);
        due.is("the last", x.cell(0, 255, 16), 32752);
    }

    static void promise17_noSuchCell(Due due) {
        ContextMix x = new ContextMix(6);
        int[] none = {-1, 33, 34, 256, LEAST, MOST};
        int[] nodes = {0, 1, 128, 255};
        for (int node : nodes) {
            for (int j : none) {
                due.is("cell(0, " + node + ", " + j + ")", x.cell(0, node, j), BAD_CELL);
                due.is("cell(1, " + node + ", " + j + ")", x.cell(1, node, j), BAD_CELL);
            }
        }
    }

    static void promise17_noSuchSide(Due due) {
        ContextMix x = new ContextMix(6);
        for (int side : NO_SIDE) {
            due.is("cell(" + side + ", 1, 16)", x.cell(side, 1, 16), BAD_CELL);
            due.is("cell(" + side + ", 256, 33)", x.cell(side, 256, 33), BAD_CELL);
        }
    }

    /** SQUASH is 0 below - 2,047 and 4,095 above 2,047: the first cell is 0, the last one 65,520. */
    static void promise17_theFirstAndTheLastCell(Due due) {
        ContextMix x = new ContextMix(6);
        for (int side = 0; side < 2; side++) {
            due.is("cell(" + side + ", 1, 0)", x.cell(side, 1, 0), 0);
            due.is("cell(" + side + ", 1, 1)", x.cell(side, 1, 1), 2 * 16);
            due.is("cell(" + side + ", 1, 31)", x.cell(side, 1, 31), 4093 * 16 - 65536);
            due.is("cell(" + side + ", 1, 32)", x.cell(side, 1, 32), 4095 * 16 - 65536);
        }
    }

    /** Without predictors a byte of 0s or of a 1 and 0s moves C(1, 16) up or down, as long as few came before. */
    private static int cellBehind(String firstBits) {
        ContextMix x = new ContextMix(6);
        for (int k = 0; k < firstBits.length(); k++) {
            x.octet(firstBits.charAt(k) == '1' ? 128 : 0);
        }
        return x.cell(0, 1, 16);
    }

    private static int numberBehind(String firstBits) {
        int cell = 32752;
        for (int k = 0; k < firstBits.length(); k++) {
            cell += Math.floorDiv((firstBits.charAt(k) == '1' ? 65535 : 0) - cell, 128);
        }
        return cell;
    }

    static void promise17_32767HasNoSign(Due due) {
        due.is("the cell is 32,767", numberBehind("0010101110"), 32767);
        due.is("cell(0, 1, 16)", cellBehind("0010101110"), 32767);
    }

    static void promise17_32768IsBelowZero(Due due) {
        due.is("the cell is 32,768", numberBehind("00101101"), 32768);
        due.is("cell(0, 1, 16)", cellBehind("00101101"), -32768);
    }

    // Promise 18: "SQUASH of d": "above 2,047: 4,095; below - 2,047: 0; else ..".

    static void promise18_above2047(Due due) {
        ContextMix x = new ContextMix(6);
        int[] above = {2048, 2049, 2175, 2176, 4096, 65536, MOST - 1, MOST};
        for (int d : above) {
            due.is("squash(" + d + ")", x.squash(d), 4095);
        }
    }

    static void promise18_below2047(Due due) {
        ContextMix x = new ContextMix(6);
        int[] below = {-2048, -2049, -2176, -4096, -65536, LEAST + 1, LEAST};
        for (int d : below) {
            due.is("squash(" + d + ")", x.squash(d), 0);
        }
    }

    static void promise18_theLeastAndTheMostThatAreReckoned(Due due) {
        ContextMix x = new ContextMix(6);
        // (T(31) + T(32) 127 + 64) / 128, and (T(0) 127 + T(1) + 64) / 128.
        due.is("squash(2047)", x.squash(2047), (4093 + 4094 * 127 + 64) / 128);
        due.is("squash(-2047)", x.squash(-2047), (127 + 2 + 64) / 128);
    }

    static void promise18_roundZero(Due due) {
        ContextMix x = new ContextMix(6);
        due.is("squash(-1)", x.squash(-1), 2043);
        due.is("squash(0)", x.squash(0), 2047);
        due.is("squash(1)", x.squash(1), 2051);
        due.is("squash(-128)", x.squash(-128), 1546);
        due.is("squash(-129)", x.squash(-129), (1101 + 1546 * 127 + 64) / 128);
        due.is("squash(127)", x.squash(127), (2047 + 2549 * 127 + 64) / 128);
        due.is("squash(128)", x.squash(128), 2549);
    }

    // Promise 19: "BAD (- 9,999): p is not 0 .. 4,095"; "2,047 without".

    static void promise19_notOfTheRange(Due due) {
        ContextMix x = new ContextMix(6);
        int[] none = {-1, -2, 4096, 4097, 65536, -4095, LEAST, MOST};
        for (int p : none) {
            due.is("stretch(" + p + ")", x.stretch(p), -9999);
        }
    }

    static void promise19_theLeastD(Due due) {
        ContextMix x = new ContextMix(6);
        due.is("stretch(0)", x.stretch(0), -2047);
        due.is("stretch(1): SQUASH(-2047) is 1", x.stretch(1), -2047);
        // T(0) is 1 and T(1) is 2: 2 is told from the half of the way on.
        due.is("stretch(2)", x.stretch(2), -2048 + 64);
        due.is("stretch(2047)", x.stretch(2047), 0);
        due.is("stretch(2048)", x.stretch(2048), 1);
        // T(31) is 4,093 and T(32) is 4,094.
        due.is("stretch(4094)", x.stretch(4094), 15 * 128 + 64);
    }

    static void promise19_2047Without(Due due) {
        ContextMix x = new ContextMix(6);
        due.is("stretch(4095): no SQUASH is as much", x.stretch(4095), 2047);
    }

    // Promise 20: "Whether both sides have the same tables, weights, cells, bytes and NODE."

    /** Eight predictors that share SLOTS are soon so sure of zeros that a 0 more changes no table at all. */
    private static ContextMix sureOfZeros(int zeros) {
        ContextMix x = Runs.withSame(12, 8, 0);
        Runs.writeSame(x, 0, zeros);
        return x;
    }

    static void promise20_bothNew(Due due) {
        due.is("without predictors", new ContextMix(6).equal(), 1);
        due.is("with predictors", Runs.withSame(12, 8, 3).equal(), 1);
    }

    static void promise20_oneByteShort(Due due) {
        ContextMix x = sureOfZeros(100);
        x.end();
        for (int k = 0; k < 99; k++) {
            x.get();
            due.is("equal() behind " + (k + 1) + " bytes", x.equal(), 0);
        }
        due.is("the weights are the same already", x.weight(1, 0, 1, 0), x.weight(0, 0, 1, 0));
        due.is("and the chances", x.chance(1), x.chance(0));
        x.get();
        due.is("equal() with the last byte", x.equal(), 1);
    }

    static void promise20_oneBitShort(Due due) {
        ContextMix x = sureOfZeros(100);
        x.bit(false);
        x.end();
        for (int k = 0; k < 100; k++) {
            x.get();
        }
        due.is("the bytes are the same", x.count(4), x.count(1));
        due.is("the weights are the same", x.weight(1, 0, 1, 0), x.weight(0, 0, 1, 0));
        due.is("NODE is 2, and 1", x.equal(), 0);
    }

    static void promise20_aByteThatIsAnother(Due due) {
        ContextMix x = new ContextMix(6);
        x.octet('a');
        x.end();
        x.spoil(3, 1);
        x.again();
        due.is("get()", x.get(), 'a');
        due.is("a spoiled byte that is read alike", x.equal(), 1);
        x.spoil(0, 128);
        x.again();
        due.holds("get() of another", x.get() != 'a');
        due.is("as many bytes, not the same", x.equal(), 0);
    }

    // Promise 21: "0 predictors, 1 bytes written whole, 2 bits of the next one, 3 bytes OUT, 4 bytes read, 5 SLOTS,
    // 6 whether end() was, 7 LENGTH of the first MATCH of side 0 (0 without). BAD: another number."

    static void promise21_anotherNumber(Due due) {
        ContextMix x = Runs.with(6, 4, 3);
        int[] none = {-1, 8, 9, 256, LEAST, MOST};
        for (int what : none) {
            due.is("count(" + what + ")", x.count(what), BAD);
        }
    }

    static void promise21_lengthWithoutAMatch(Due due) {
        ContextMix x = Runs.with(6, 0, 3, 1, 0);
        Runs.write(x, "abcabcabc");
        due.is("count(7)", x.count(7), 0);
    }

    static void promise21_lengthOfTheFirstMatch(Due due) {
        ContextMix x = Runs.with(6, 0, 0, 4, 8, 4, 3);
        Runs.write(x, "abcabcabc");
        due.holds("the second tells", x.input(0, 2) != 0);
        due.is("count(7) is the first's", x.count(7), 0);
        Runs.write(x, "ab");
        due.is("eight bytes before", x.count(7), 8);
    }

    static void promise21_lengthOfSide0(Due due) {
        ContextMix x = Runs.with(6, 4, 3);
        Runs.write(x, "abcabcabc");
        x.end();
        due.is("count(7) before reading", x.count(7), 6);
        Runs.reads(due, x, "abc");
        due.is("count(7) behind it", x.count(7), 6);
        x.again();
        due.is("count(7) behind again()", x.count(7), 6);
        x.clear();
        due.is("count(7) behind clear()", x.count(7), 0);
    }

    static void promise21_endIsZeroOrOne(Due due) {
        ContextMix x = new ContextMix(6);
        due.is("before", x.count(6), 0);
        x.end();
        due.is("behind", x.count(6), 1);
        x.end();
        x.again();
        due.is("still", x.count(6), 1);
        x.clear();
        due.is("behind clear()", x.count(6), 0);
    }
}
