/** Promises 1 to 11 and 21: what the calls that change an object answer, with their edges and wrong inputs. */
public final class CallsTest {
    private static final int BAD = ContextMix.BAD, NONE = ContextMix.NONE, FULL = ContextMix.FULL,
        STATE = ContextMix.STATE;
    private static final Due DUE = new Due("CallsTest");

    public static void main(String[] args) {
        newObject();
        predictor();
        off();
        bit();
        octet();
        end();
        get();
        again();
        clear();
        outAndSpoil();
        count();
        countOfMatch();
        full();
        fullOfOut();
        DUE.end();
    }

    private static void write(ContextMix x, String text) {
        for (int k = 0; k < text.length(); k++) {
            x.octet(text.charAt(k));
        }
    }

    private static void reads(ContextMix x, String text) {
        for (int k = 0; k < text.length(); k++) {
            DUE.is("get() of '" + text.charAt(k) + "'", x.get(), text.charAt(k));
        }
    }

    private static void newObject() {
        int[] rooms = {Integer.MIN_VALUE, -1, 0, 5, 6, 7, 8, 9, 10, 11, 12, 13, 64, Integer.MAX_VALUE};
        int[] slots = {64, 64, 64, 64, 64, 128, 256, 512, 1024, 2048, 4096, 4096, 4096, 4096};
        for (int k = 0; k < rooms.length; k++) {
            ContextMix x = new ContextMix(rooms[k]);
            DUE.is("1: slots of room " + rooms[k], x.count(5), slots[k]);
            DUE.is("1: seen of the last slot", x.seen(1, slots[k] - 1), 0);
            DUE.is("1: seen behind the last slot", x.seen(1, slots[k]), BAD);
            for (int what = 0; what < 8; what++) {
                DUE.is("1: count(" + what + ") of a new object", what == 5 ? 0 : x.count(what), 0);
            }
            DUE.is("1: equal of a new object", x.equal(), 1);
            DUE.is("1: get of a new object", x.get(), STATE);
        }
    }

    private static void predictor() {
        int[][] edges = {{0, 0, 6}, {2, 1, 64}, {3, 1, 15}, {4, 3, 8}};
        for (int[] edge : edges) {
            ContextMix x = new ContextMix(6);
            DUE.is("2: least n of kind " + edge[0], x.predictor(edge[0], edge[1]), 0);
            DUE.is("2: most n of kind " + edge[0], x.predictor(edge[0], edge[2]), 1);
            DUE.is("2: below n of kind " + edge[0], x.predictor(edge[0], edge[1] - 1), BAD);
            DUE.is("2: above n of kind " + edge[0], x.predictor(edge[0], edge[2] + 1), BAD);
            DUE.is("2: far n of kind " + edge[0], x.predictor(edge[0], Integer.MIN_VALUE), BAD);
            DUE.is("2: BAD adds none", x.count(0), 2);
        }
        ContextMix x = new ContextMix(6);
        DUE.is("2: kind -1", x.predictor(-1, 3), BAD);
        DUE.is("2: kind 5", x.predictor(5, 3), BAD);
        for (int k = 0; k < 8; k++) {
            DUE.is("2: number", x.predictor(1, k * 1000 - 4000), k);
        }
        DUE.is("2: a ninth", x.predictor(1, 0), FULL);
        DUE.is("2: a ninth that is none", x.predictor(1 + 4, 0), BAD);
        DUE.is("2: eight stay", x.count(0), 8);
        x.bit(true);
        DUE.is("2: behind a bit, before FULL", x.predictor(1, 0), STATE);
        DUE.is("2: behind a bit, BAD first", x.predictor(0, 7), BAD);
        ContextMix y = new ContextMix(6);
        y.octet(0);
        DUE.is("2: behind a byte", y.predictor(0, 1), STATE);
        ContextMix z = new ContextMix(6);
        z.end();
        DUE.is("2: behind end()", z.predictor(0, 1), STATE);
        z.clear();
        DUE.is("2: behind clear()", z.predictor(0, 1), 0);
    }

    private static void off() {
        ContextMix x = new ContextMix(6);
        DUE.is("3: none yet", x.off(0), BAD);
        x.predictor(0, 0);
        x.predictor(4, 3);
        DUE.is("3: off", x.off(0), 1);
        DUE.is("3: was off", x.off(0), 0);
        DUE.is("3: -1", x.off(-1), BAD);
        DUE.is("3: behind the last", x.off(2), BAD);
        DUE.is("3: far", x.off(Integer.MAX_VALUE), BAD);
        write(x, "abcabcab");
        DUE.is("3: behind bits", x.off(1), STATE);
        DUE.is("3: behind bits, was off", x.off(0), STATE);
        DUE.is("3: behind bits, none such", x.off(2), BAD);
        DUE.is("3: an OFF predictor's INPUT", x.input(0, 0), 0);
        DUE.is("3: an OFF predictor's weight", x.weight(0, 0, 1, 0), 20000);
        for (int i = 0; i < 64; i++) {
            DUE.is("3: an OFF predictor's SLOT " + i, x.seen(0, i), 0);
        }
        ContextMix y = new ContextMix(6);
        y.predictor(4, 3);
        y.off(0);
        write(y, "abcabcab");
        DUE.is("3: an OFF MATCH is found", y.count(7), 5);
        DUE.is("3: and tells nothing", y.input(0, 0), 0);
        ContextMix z = new ContextMix(6);
        z.predictor(0, 0);
        z.end();
        DUE.is("3: behind end()", z.off(0), STATE);
    }

    private static void bit() {
        ContextMix x = new ContextMix(6);
        // With 2,047 of 4,096 each bit takes about one: the first byte comes out with the ninth.
        int[] sizes = new int[16];
        for (int k = 0; k < 16; k++) {
            sizes[k] = x.bit(k % 2 == 0);
            DUE.is("4: bits of the next byte", x.count(2), (k + 1) % 8);
            DUE.is("4: bytes written", x.count(1), (k + 1) / 8);
            DUE.is("4: answers the bytes OUT", sizes[k], x.count(3));
        }
        DUE.is("4: nothing at first", sizes[0], 0);
        DUE.holds("4: about a byte for a byte", sizes[15] >= 1 && sizes[15] <= 2);
        x.end();
        DUE.is("4: behind end()", x.bit(true), STATE);
        DUE.is("4: the bits were those of 170", x.get(), 170);
        DUE.is("4: twice", x.get(), 170);
        DUE.is("4: none more", x.get(), NONE);
        ContextMix y = new ContextMix(6);
        y.bit(true);
        // 1, of chance 2,047: HIGH is 2^20 - 1 times 2,047; the error is (4,095 - 2,047) times 7.
        DUE.is("4: weight of the last INPUT", y.weight(0, 0, 1, 0), 56);
        DUE.is("4: of the latest byte, 0", y.weight(0, 1, 0, 0), 56);
        DUE.is("4: cell", y.cell(0, 1, 16), 33008 - 65536);
        y.end();
        DUE.is("4: LOW 0", y.out(0) + y.out(1) + y.out(2) + y.out(3), 0);
        ContextMix z = new ContextMix(6);
        z.bit(false);
        z.end();
        // LOW is 1,048,575 times 2,047 and 1 = 2,146,433,026 = 0x7FEFF802.
        DUE.is("4: weight behind a 0", z.weight(0, 0, 1, 0), -56);
        DUE.is("4: cell behind a 0", z.cell(0, 1, 16), 32752 - 256);
        int[] low = {0x7F, 0xEF, 0xF8, 0x02};
        for (int k = 0; k < 4; k++) {
            DUE.is("4: byte " + k + " of LOW", z.out(k), low[k]);
        }
    }

    private static void octet() {
        ContextMix x = new ContextMix(8);
        ContextMix y = new ContextMix(8);
        x.predictor(0, 1);
        y.predictor(0, 1);
        int[] bytes = {0, 255, 256 + 65, -1, -256, Integer.MIN_VALUE + 7, Integer.MAX_VALUE, 128};
        for (int b : bytes) {
            int last = 0;
            for (int k = 7; k >= 0; k--) {
                last = y.bit((b >> k & 1) == 1);
            }
            DUE.is("5: octet(" + b + ") as its bits", x.octet(b), last);
        }
        x.bit(true);
        DUE.is("5: a byte in the midst", x.octet(1), STATE);
        DUE.is("5: leaves it so", x.count(2), 1);
        x.end();
        y.end();
        DUE.is("5: behind end()", y.octet(1), STATE);
        for (int b : bytes) {
            DUE.is("5: reads back", x.get(), b & 255);
            DUE.is("5: reads back the bits", y.get(), b & 255);
        }
    }

    private static void end() {
        ContextMix x = new ContextMix(6);
        DUE.is("6: of nothing", x.end(), 4);
        DUE.is("6: it was", x.end(), STATE);
        DUE.is("6: adds nothing", x.count(3), 4);
        DUE.is("6: LOW 0", x.out(0) + x.out(1) + x.out(2) + x.out(3), 0);
        DUE.is("6: nothing to read", x.get(), NONE);
        ContextMix y = new ContextMix(6);
        write(y, "ab");
        y.bit(true);
        y.bit(true);
        y.bit(false);
        int had = y.count(3);
        DUE.is("6: four bytes more", y.end(), had + 4);
        DUE.is("6: a byte in the midst stays so", y.count(2), 3);
        DUE.is("6: two whole ones", y.count(1), 2);
        reads(y, "ab");
        DUE.is("6: the third is not whole", y.get(), NONE);
    }

    private static void get() {
        ContextMix x = new ContextMix(10);
        x.predictor(0, 2);
        x.predictor(1, 0);
        x.predictor(4, 3);
        String text = "a mixer of many foretellers: each tells from something that came before, each tells";
        DUE.is("7: before end()", x.get(), STATE);
        write(x, text);
        DUE.is("7: still before end()", x.get(), STATE);
        x.end();
        reads(x, text);
        DUE.is("7: all were read", x.get(), NONE);
        DUE.is("7: still", x.get(), NONE);
        DUE.is("7: count", x.count(4), text.length());
        DUE.is("7: the same tables", x.equal(), 1);
        DUE.holds("7: in less room", x.count(3) < text.length());
    }

    private static void again() {
        ContextMix x = new ContextMix(10);
        x.predictor(0, 1);
        x.predictor(4, 3);
        DUE.is("8: before anything", x.again(), 0);
        write(x, "banana banana");
        DUE.is("8: before end()", x.again(), 0);
        DUE.is("8: does not end", x.get(), STATE);
        DUE.is("8: side 0 stays", x.count(1), 13);
        x.end();
        reads(x, "banana");
        DUE.is("8: six were read", x.again(), 6);
        DUE.is("8: none now", x.count(4), 0);
        DUE.is("8: weights as at first", x.weight(1, 0, 1, 2), 0);
        DUE.is("8: cells as at first", x.cell(1, 1, 16), 32752);
        DUE.is("8: chance as at first", x.chance(1), 2047);
        for (int i = 0; i < 1024; i++) {
            if (x.seen(1, i) != 0 || x.slot(1, i) != 32768) {
                DUE.is("8: SLOT " + i, x.slot(1, i), 32768);
            }
        }
        reads(x, "banana banana");
        DUE.is("8: equal behind it", x.equal(), 1);
        DUE.is("8: all were read", x.again(), 13);
        DUE.is("8: at once again", x.again(), 0);
        // The first four bytes are taken by again(): a spoiled first byte is seen behind it alone.
        x.spoil(0, 255);
        DUE.is("8: taken before", x.get(), 'b');
        x.again();
        DUE.holds("8: taken behind", x.get() != 'b');
        x.again();
        x.spoil(0, 255);
        x.again();
        reads(x, "banana banana");
    }

    private static void clear() {
        ContextMix x = new ContextMix(7);
        ContextMix fresh = new ContextMix(7);
        ContextMix[] both = {x, fresh};
        DUE.is("9: of a new object", x.clear(), 1);
        for (ContextMix m : both) {
            m.predictor(0, 1);
            m.predictor(4, 3);
            m.predictor(3, 10);
            m.off(2);
        }
        write(x, "something that went before");
        x.bit(true);
        x.end();
        x.get();
        x.get();
        DUE.is("9: answers", x.clear(), 1);
        int[] counts = {3, 0, 0, 0, 0, 128, 0, 0};
        for (int what = 0; what < 8; what++) {
            DUE.is("9: count(" + what + ")", x.count(what), counts[what]);
        }
        DUE.is("9: get", x.get(), STATE);
        DUE.is("9: out", x.out(0), BAD);
        DUE.is("9: equal", x.equal(), 1);
        DUE.is("9: OFF stays with its predictor", x.off(2), 0);
        String text = "as new, as new";
        for (int k = 0; k < text.length(); k++) {
            DUE.is("9: as a new object", x.octet(text.charAt(k)), fresh.octet(text.charAt(k)));
            DUE.is("9: chance as of a new object", x.chance(0), fresh.chance(0));
        }
        DUE.is("9: end as of a new object", x.end(), fresh.end());
        reads(x, text);
        x.clear();
        DUE.is("9: one more predictor", x.predictor(0, 0), 3);
        DUE.is("9: the last weight is behind it", x.weight(0, 0, 9, 4), 0);
        DUE.is("9: its weight", x.weight(0, 0, 9, 3), 20000);
    }

    private static void outAndSpoil() {
        ContextMix x = new ContextMix(6);
        DUE.is("10: none yet", x.out(0), BAD);
        DUE.is("11: none yet", x.spoil(0, 1), BAD);
        x.bit(false);
        x.end();
        DUE.is("10: byte 0", x.out(0), 0x7F);
        DUE.is("10: byte 3", x.out(3), 0x02);
        int[] none = {-1, 4, Integer.MIN_VALUE, Integer.MAX_VALUE};
        for (int i : none) {
            DUE.is("10: out(" + i + ")", x.out(i), BAD);
            DUE.is("11: spoil(" + i + ", 1)", x.spoil(i, 1), BAD);
        }
        int[] masks = {0, 256, -1, 257, Integer.MIN_VALUE, Integer.MAX_VALUE};
        for (int mask : masks) {
            DUE.is("11: mask " + mask, x.spoil(0, mask), BAD);
        }
        DUE.is("11: BAD spoils nothing", x.out(0), 0x7F);
        DUE.is("11: least mask", x.spoil(0, 1), 0x7E);
        DUE.is("11: most mask", x.spoil(3, 255), 0xFD);
        DUE.is("11: it stays", x.out(0), 0x7E);
        DUE.is("11: back again", x.spoil(0, 1), 0x7F);
        ContextMix y = new ContextMix(6);
        write(y, "spoiled by a bit or two");
        y.end();
        y.spoil(8, 16);
        int other = 0;
        for (int k = 0; k < 23; k++) {
            other += y.get() != "spoiled by a bit or two".charAt(k) ? 1 : 0;
        }
        DUE.holds("11: what is read is not what was written", other > 0);
        DUE.is("11: nor are the sides the same", y.equal(), 0);
    }

    private static void count() {
        ContextMix x = new ContextMix(9);
        x.predictor(0, 3);
        x.predictor(2, 5);
        write(x, "xyz");
        x.bit(true);
        x.bit(false);
        int out = x.count(3);
        int[] before = {2, 3, 2, out, 0, 512, 0, 0};
        for (int what = 0; what < 8; what++) {
            DUE.is("21: count(" + what + ")", x.count(what), before[what]);
        }
        x.end();
        x.get();
        int[] behind = {2, 3, 2, out + 4, 1, 512, 1, 0};
        for (int what = 0; what < 8; what++) {
            DUE.is("21: count(" + what + ") behind end()", x.count(what), behind[what]);
        }
        int[] none = {-1, 8, Integer.MIN_VALUE, Integer.MAX_VALUE};
        for (int what : none) {
            DUE.is("21: count(" + what + ")", x.count(what), BAD);
        }
    }

    private static void countOfMatch() {
        ContextMix x = new ContextMix(9);
        x.predictor(0, 0);
        x.predictor(4, 4);
        x.predictor(4, 3);
        write(x, "abcab");
        DUE.is("21: too short for 4", x.count(7), 0);
        x.octet('c');
        DUE.is("21: the second MATCH does not count", x.count(7), 0);
        DUE.is("13: though it tells", x.input(0, 2), -192);
        x.octet('a');
        DUE.is("21: four before", x.count(7), 4);
        x.octet('b');
        DUE.is("21: one more", x.count(7), 5);
        x.octet('x');
        DUE.is("21: another byte", x.count(7), 0);
        for (int k = 0; k < 60; k++) {
            x.octet("abcd".charAt(k % 4));
        }
        DUE.is("21: 32 at most", x.count(7), 32);
        DUE.is("13: 16 at most are told", x.input(0, 1), -1024);
        ContextMix zeros = new ContextMix(9);
        zeros.predictor(4, 3);
        int[] lengths = {0, 0, 0, 3, 4, 5};
        for (int length : lengths) {
            zeros.octet(0);
            DUE.is("21: what stands before all matches nothing", zeros.count(7), length);
        }
        farMatch(64, 3);
        farMatch(65, 0);
    }

    /** Three bytes that came before, the byte behind them so many bytes back. */
    private static void farMatch(int back, int length) {
        ContextMix x = new ContextMix(9);
        x.predictor(4, 3);
        write(x, "the");
        for (int k = 0; k < back - 3; k++) {
            x.octet(128 + k);
        }
        write(x, "the");
        DUE.is("21: a match " + back + " back", x.count(7), length);
    }

    /** 2,000 bytes take more than the 512 calls that are promised; FULL is kept all the same. */
    private static void full() {
        ContextMix x = new ContextMix(6);
        for (int k = 0; k < 1999; k++) {
            x.octet(k * k / 7);
        }
        for (int k = 0; k < 7; k++) {
            x.bit(k % 3 == 0);
        }
        DUE.is("4: seven bits of the last byte", x.count(2), 7);
        int size = x.bit(true);
        DUE.holds("4: the last bit", size > 0);
        DUE.is("4: 2,000 bytes were written", x.bit(true), FULL);
        DUE.is("5: 2,000 bytes were written", x.octet(1), FULL);
        DUE.is("4: FULL writes nothing", x.count(3), size);
        DUE.is("6: end() all the same", x.end(), size + 4);
        DUE.is("4: STATE before FULL", x.bit(true), STATE);
        DUE.is("5: STATE before FULL", x.octet(1), STATE);
        for (int k = 0; k < 1999; k++) {
            DUE.is("7: byte " + k, x.get(), k * k / 7 & 255);
        }
        DUE.is("7: the last byte", x.get(), 0x93);
        DUE.is("7: none more", x.get(), NONE);
    }

    /** The less likely bit each time, with predictors that overdo it, takes far more room than it is worth. */
    private static void fullOfOut() {
        ContextMix x = new ContextMix(12);
        for (int k = 0; k < 5; k++) {
            x.predictor(0, 4);
        }
        int size = 0;
        int bits = 0;
        while (bits < 16000 && size <= 2992) {
            size = x.bit(x.chance(0) < 2048);
            bits++;
        }
        DUE.holds("4: OUT has more than 2,992 before 2,000 bytes", size > 2992 && bits < 16000);
        DUE.is("4: OUT has more than 2,992", x.bit(true), FULL);
        DUE.is("5: FULL, or STATE in the midst", x.octet(1), x.count(2) == 0 ? FULL : STATE);
        DUE.is("4: FULL writes nothing", x.count(3), size);
        DUE.is("6: end() all the same", x.end(), size + 4);
        for (int k = 0; k < x.count(1); k++) {
            x.get();
        }
        DUE.is("7: none more", x.get(), NONE);
        DUE.is("20: the sides are the same but for a byte in the midst", x.equal(), x.count(2) == 0 ? 1 : 0);
    }
}
