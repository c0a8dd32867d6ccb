/** Promises 1 to 11 and 21 in ordinary use; their boundary cases are in Edges1To11Test and Edges12To21Test. */
public final class CallsTest {
    private static final int BAD = ContextMix.BAD, NONE = ContextMix.NONE, STATE = ContextMix.STATE;

    public static void main(String[] args) {
        Suite.run(CallsTest.class);
    }

    static void promise1_aNewObjectWritesAndReads(Due due) {
        for (int room = 6; room <= 12; room++) {
            ContextMix x = new ContextMix(room);
            Runs.write(x, "without predictors");
            x.end();
            Runs.reads(due, x, "without predictors");
        }
    }

    static void promise2_everyKindTells(Due due) {
        int[][] predictors = {{0, 2}, {1, 0}, {2, 4}, {3, 5}, {4, 3}};
        for (int[] one : predictors) {
            ContextMix x = new ContextMix(12);
            due.is("predictor(" + one[0] + ", " + one[1] + ")", x.predictor(one[0], one[1]), 0);
            Runs.write(x, "abc abc abc ");
            due.holds("its INPUT", x.input(0, 0) < -100);
            x.end();
            Runs.reads(due, x, "abc abc abc ");
            due.is("equal()", x.equal(), 1);
        }
    }

    static void promise3_anOffPredictorIsNotHeard(Due due) {
        ContextMix x = Runs.with(6, 0, 0, 4, 3);
        due.is("off(0)", x.off(0), 1);
        Runs.write(x, "abcabcab");
        due.is("its INPUT", x.input(0, 0), 0);
        due.is("its weight", x.weight(0, 0, 1, 0), 20000);
        due.holds("the other's INPUT", x.input(0, 1) != 0);
        due.holds("the other's weight", x.weight(0, 0, 1, 1) != 20000);
    }

    static void promise4_bitsAreReadBackAsBytes(Due due) {
        ContextMix x = new ContextMix(6);
        for (int k = 0; k < 16; k++) {
            int size = x.bit(k % 2 == 0);
            due.is("answers the bytes OUT", size, x.count(3));
            due.holds("about a bit for a bit", size <= (k + 1) / 8 + 1 && size >= (k + 1) / 8 - 1);
        }
        x.end();
        due.is("get()", x.get(), 170);
        due.is("get()", x.get(), 170);
        due.is("none more", x.get(), NONE);
    }

    static void promise4_aOneIsLearned(Due due) {
        ContextMix x = new ContextMix(6);
        x.bit(true);
        // The error is (4,095 - 2,047) times 7, the INPUT 256.
        due.is("weight of NODE 1", x.weight(0, 0, 1, 0), 56);
        due.is("weight of the latest byte, 0", x.weight(0, 1, 0, 0), 56);
        due.is("cell", x.cell(0, 1, 16), 33008 - 65536);
    }

    static void promise4_aZeroIsLearned(Due due) {
        ContextMix x = new ContextMix(6);
        x.bit(false);
        due.is("weight of NODE 1", x.weight(0, 0, 1, 0), -56);
        due.is("weight of the latest byte, 0", x.weight(0, 1, 0, 0), -56);
        due.is("cell", x.cell(0, 1, 16), 32752 - 256);
    }

    static void promise5_anOctetIsItsBits(Due due) {
        ContextMix x = Runs.with(8, 0, 1, 4, 3);
        ContextMix bits = Runs.with(8, 0, 1, 4, 3);
        String text = "an octet is its eight bits, is it";
        for (int k = 0; k < text.length(); k++) {
            int b = text.charAt(k);
            int last = Runs.bits(bits, Integer.toBinaryString(256 + b).substring(1));
            due.is("octet(" + b + ")", x.octet(b), last);
        }
        Runs.same(due, "as bit by bit", x, bits);
    }

    static void promise6_theEndAddsFourBytes(Due due) {
        ContextMix x = Runs.with(8, 0, 1);
        Runs.write(x, "something");
        int size = x.count(3);
        due.is("end()", x.end(), size + 4);
        due.is("count(3)", x.count(3), size + 4);
        due.is("count(6)", x.count(6), 1);
    }

    static void promise7_whatWasWrittenIsRead(Due due) {
        ContextMix x = Runs.with(10, 0, 2, 1, 0, 4, 3);
        String text = "a mixer of many foretellers: each tells from something that came before, each tells";
        Runs.write(x, text);
        x.end();
        Runs.reads(due, x, text);
        due.is("bytes read", x.count(4), text.length());
        due.is("the same tables", x.equal(), 1);
        due.holds("in less room", x.count(3) < text.length());
    }

    static void promise8_readingBeginsAnew(Due due) {
        ContextMix x = Runs.with(10, 0, 1, 4, 3);
        Runs.write(x, "banana banana");
        x.end();
        Runs.reads(due, x, "banana");
        due.is("again()", x.again(), 6);
        Runs.reads(due, x, "banana banana");
        due.is("equal()", x.equal(), 1);
    }

    static void promise9_theSameObjectForAnotherText(Due due) {
        ContextMix x = Runs.with(7, 0, 1, 4, 3, 3, 10);
        ContextMix fresh = Runs.with(7, 0, 1, 4, 3, 3, 10);
        Runs.write(x, "something that went before");
        x.end();
        x.get();
        due.is("clear()", x.clear(), 1);
        String text = "as new, as new";
        for (int k = 0; k < text.length(); k++) {
            due.is("octet", x.octet(text.charAt(k)), fresh.octet(text.charAt(k)));
            due.is("chance(0)", x.chance(0), fresh.chance(0));
        }
        due.is("end()", x.end(), fresh.end());
        Runs.reads(due, x, text);
    }

    static void promise9_onePredictorMoreBehindIt(Due due) {
        ContextMix x = Runs.with(7, 0, 1);
        Runs.write(x, "before");
        x.clear();
        due.is("predictor(0, 0)", x.predictor(0, 0), 1);
        due.is("its weight", x.weight(0, 0, 1, 1), 20000);
        due.is("the last one is behind it", x.weight(0, 0, 1, 2), 0);
    }

    static void promise10_outHasEveryByte(Due due) {
        ContextMix x = new ContextMix(6);
        Runs.write(x, "bytes that come out");
        int first = x.out(0);
        due.holds("the first one before end()", first >= 0 && first <= 255);
        int size = x.end();
        due.is("it stays", x.out(0), first);
        for (int i = 0; i < size; i++) {
            due.holds("out(" + i + ")", x.out(i) >= 0 && x.out(i) <= 255);
        }
    }

    static void promise11_whatIsSpoiledIsReadOtherwise(Due due) {
        String text = "spoiled by a bit or two";
        ContextMix x = new ContextMix(6);
        Runs.write(x, text);
        x.end();
        int was = x.out(8);
        due.is("spoil(8, 16)", x.spoil(8, 16), was ^ 16);
        due.is("out(8)", x.out(8), was ^ 16);
        int other = 0;
        for (int k = 0; k < text.length(); k++) {
            other += x.get() != text.charAt(k) ? 1 : 0;
        }
        due.holds("other bytes are read", other > 0);
        due.is("the sides differ", x.equal(), 0);
        x.spoil(8, 16);
        x.again();
        Runs.reads(due, x, text);
    }

    static void promise21_countsOfARun(Due due) {
        ContextMix x = Runs.with(9, 0, 3, 4, 3);
        due.is("get() before end()", x.get(), STATE);
        Runs.write(x, "xyzxyz");
        Runs.bits(x, "10");
        int out = x.count(3);
        int[] before = {2, 6, 2, out, 0, 512, 0, 3};
        for (int what = 0; what < before.length; what++) {
            due.is("count(" + what + ")", x.count(what), before[what]);
        }
        x.end();
        x.get();
        int[] behind = {2, 6, 2, out + 4, 1, 512, 1, 3};
        for (int what = 0; what < behind.length; what++) {
            due.is("count(" + what + ") behind end()", x.count(what), behind[what]);
        }
        due.is("count(8)", x.count(8), BAD);
    }
}
