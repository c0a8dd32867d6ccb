import java.lang.reflect.Field;
import java.math.BigInteger;

/** The terms, 'What it is' and 'Not promised': a test of its own for each sentence that names a boundary case. */
public final class EdgesOfTermsTest {
    private static final int BAD = ContextMix.BAD;
    private static final String LETTERS = "ABCDEFGHIJKLMNOPQRSTUVWXYZabcdefghijklmnopqrstuvwxyz";

    public static void main(String[] args) {
        Suite.run(EdgesOfTermsTest.class);
    }

    // What it is: "An object is used for at most 512 calls after it has been made".

    static void whatItIs_the512thCallAnswersAsTheFirst(Due due) {
        ContextMix x = new ContextMix(12);
        int calls = 0;
        int[] kinds = {0, 0, 0, 1, 2, 3, 4, 4};
        int[] ns = {1, 2, 6, 0, 64, 15, 3, 8};
        for (int k = 0; k < 8; k++, calls++) {
            x.predictor(kinds[k], ns[k]);
        }
        for (int k = 0; k < 251; k++, calls++) {
            x.octet(k * k / 5);
        }
        x.end();
        calls++;
        for (int k = 0; k < 251; k++, calls++) {
            due.is("get() of byte " + k, x.get(), k * k / 5 & 255);
        }
        due.is("equal()", x.equal(), 1);
        due.is("calls", calls + 1, 512);
    }

    // Not promised: what an object answers behind its 512th call; that no call throws by itself is the language's rule.

    static void notPromised_laterCallsDoNotThrowEither(Due due) {
        int[] odd = {Integer.MIN_VALUE, -1, 0, 1, 3, 8, 63, 64, 255, 256, 4095, 4096, Integer.MAX_VALUE};
        ContextMix x = Runs.with(6, 0, 6, 1, 0, 2, 64, 3, 15, 4, 8, 4, 3);
        for (int round = 0; round < 3; round++) {
            for (int k = 0; k < 2100; k++) {
                int a = odd[k % odd.length];
                int b = odd[k / odd.length % odd.length];
                x.octet(a + k);
                x.spoil(a, b & 255);
                x.out(a);
                x.chance(a);
                x.input(a, b);
                x.weight(k & 1, a, b, a);
                x.seen(a, b);
                x.cell(a, b, a);
                x.squash(a);
                x.stretch(b);
                x.count(a);
                Runs.slotOrThrows(x, a, b);
            }
            due.is("2,000 bytes at most", x.count(1), 2000);
            x.end();
            for (int k = 0; k < 2100; k++) {
                x.get();
            }
            due.is("all of them read", x.count(4), 2000);
            x.again();
            x.clear();
        }
    }

    // 1 NUMBERS: "All divisions by powers of 2 cut downwards (also below 0)."

    static void term1_squashCutsDownwards(Due due) {
        // d / 128 is - 1 and d modulo 128 is 127.
        due.is("squash(-1)", new ContextMix(6).squash(-1), (1546 + 2047 * 127 + 64) / 128);
    }

    static void term1_aSlotsFallCutsDownwards(Due due) {
        ContextMix x = Runs.with(12, 0, 0);
        int slot = Runs.slotOf(4096, 1, 1, 0);
        x.octet(0);
        due.is("behind a 0", x.slot(0, slot), 16384);
        x.bit(false);
        // - 16,384 times 21,845 / 65,536 is - 5,461.25.
        due.is("behind another", x.slot(0, slot), 16384 - 5462);
    }

    static void term1_aCellsFallCutsDownwards(Due due) {
        ContextMix x = new ContextMix(6);
        x.bit(false);
        // - 32,752 / 128 is - 255.875.
        due.is("cell(0, 1, 16)", x.cell(0, 1, 16), 32752 - 256);
    }

    static void term1_aWeightsFallCutsDownwards(Due due) {
        ContextMix x = new ContextMix(6);
        x.bit(false);
        // (256 times - 2,047 times 7, and 32,768) / 65,536 is - 55.47.
        due.is("of NODE 1", x.weight(0, 0, 1, 0), -56);
        due.is("of byte 0", x.weight(0, 1, 0, 0), -56);
    }

    static void term1_whatAMixerTellsIsCutDownwards(Due due) {
        ContextMix x = new ContextMix(6);
        Runs.bits(x, "00000");
        // Mixer 1 has - 280 times 256 / 65,536, - 1.09: SQUASH(- 2) is 2,039; mixer 0 is new at NODE 32: 2,047.
        due.is("weight(0, 1, 0, 0)", x.weight(0, 1, 0, 0), -280);
        // MIXED is 2,043, STRETCH of it - 1; (24,736 and 32,752 times 127) / 2,048 is 2,043.
        due.is("chance(0)", x.chance(0), (2043 + 3 * 2043 + 2) / 4);
    }

    // "HASH ..: wrapping, 32 bits"; "h shifted right by 15, without sign".

    private static int hashOf(int a, int b) {
        BigInteger wrap = BigInteger.ONE.shiftLeft(32);
        BigInteger first = BigInteger.valueOf((a ^ 0x2545F491) & 0xFFFFFFFFL).multiply(BigInteger.valueOf(0x9E3779B1L));
        BigInteger second = BigInteger.valueOf(b & 0xFFFFFFFFL).multiply(BigInteger.valueOf(0x85EBCA6BL));
        BigInteger h = first.add(second).mod(wrap);
        return h.xor(h.shiftRight(15)).intValue();
    }

    /** Behind a byte whose CONTEXT has its highest bit set, or not, the SLOT is the one of an unsigned shift. */
    static void term1_hashWrapsAndShiftsWithoutSign(Due due) {
        int below = 0;
        for (int b = 0; b < 256; b++) {
            ContextMix x = Runs.with(12, 0, 1);
            x.octet(b);
            int context = hashOf(hashOf(2, 0), b);
            below += context < 0 ? 1 : 0;
            int slot = hashOf(context, 1) & 4095;
            int before = x.seen(0, slot);
            x.bit(true);
            due.is("COUNT of the SLOT behind " + b, x.seen(0, slot), before + 1);
        }
        due.holds("HASHes on both sides of 0", below > 0 && below < 256);
    }

    // 2 SIDES: "a byte before all is 0"; "NODE: 1, and behind it the bits of the byte that is going (1 .. 255)".

    static void term2_bytesBeforeAllAreZero(Due due) {
        Runs.hasContext(due, "", 0, 1, 2, 0, 0);
        Runs.hasContext(due, "", 0, 6, 7, 0, 0, 0, 0, 0, 0, 0);
        Runs.hasContext(due, "abcde", 0, 6, 7, 0, 'e', 'd', 'c', 'b', 'a', 0);
        Runs.hasContext(due, "abcdef", 0, 6, 7, 0, 'f', 'e', 'd', 'c', 'b', 'a');
        Runs.hasContext(due, "", 2, 1, 65, 0, 0, 0);
        Runs.hasContext(due, "", 2, 64, 128, 0, 0, 0);
        Runs.hasContext(due, "", 3, 15, 143, 0, 0, 0, 0, 0);
        Runs.hasContext(due, "abc", 3, 15, 143, 0, 'c', 'b', 'a', 0);
        Runs.hasContext(due, "abc", 3, 8, 136, 0, 0);
        Runs.hasContext(due, "abcd", 3, 8, 136, 0, 'a');
    }

    static void term2_theLatestByteBeforeAllIsZero(Due due) {
        ContextMix x = new ContextMix(6);
        x.bit(true);
        due.is("row 0 of mixer 1 learns", x.weight(0, 1, 0, 0), 56);
        for (int set = 1; set < 256; set++) {
            due.is("no other row", x.weight(0, 1, set, 0), 0);
        }
    }

    static void term2_theGreatestNode(Due due) {
        ContextMix x = new ContextMix(6);
        Runs.bits(x, "1111111");
        due.is("before the eighth bit", x.weight(0, 0, 255, 0), 0);
        x.bit(true);
        due.holds("the row of NODE 255 learns", x.weight(0, 0, 255, 0) > 0);
        due.holds("and its cell", x.cell(0, 255, 16) != 32752 || x.cell(0, 255, 17) != (short) (2549 * 16));
        x.bit(true);
        due.holds("then NODE is 1 again", x.weight(0, 0, 1, 0) > 56);
    }

    static void term2_noNodeIsZero(Due due) {
        ContextMix x = new ContextMix(6);
        Runs.writeSame(x, 0, 3);
        Runs.writeSame(x, 255, 3);
        due.is("weight(0, 0, 0, 0)", x.weight(0, 0, 0, 0), 0);
        for (int j = 0; j <= 32; j++) {
            due.is("cell(0, 0, " + j + ")", x.cell(0, 0, j), x.cell(1, 0, j));
        }
        due.holds("NODE 128 was", x.weight(0, 0, 128, 0) < 0);
    }

    static void term2_theRowOfTheGreatestByte(Due due) {
        ContextMix x = new ContextMix(6);
        x.octet(255);
        due.is("before a bit behind it", x.weight(0, 1, 255, 0), 0);
        x.bit(true);
        due.holds("the row of byte 255 learns", x.weight(0, 1, 255, 0) > 0);
    }

    // "kind 0, n 0 .. 6: HASH, of n + 1 and 0, with each of the latest n bytes".

    static void term2_noBytesOfN0(Due due) {
        Runs.hasContext(due, "", 0, 0, 1, 0);
        Runs.hasContext(due, "abcdefgh", 0, 0, 1, 0);
    }

    static void term2_sixBytesOfN6(Due due) {
        Runs.hasContext(due, "abcdefgh", 0, 6, 7, 0, 'h', 'g', 'f', 'e', 'd', 'c');
    }

    // "1: .. the bytes behind the latest one that is no letter (A .. Z, a .. z), .. the latest 16 at most".

    static void term2_noWord(Due due) {
        Runs.hasContext(due, "", 1, 0, 32, 0);
        Runs.hasContext(due, "word ", 1, 0, 32, 0);
        Runs.hasContext(due, "word1", 1, 0, 32, 0);
    }

    static void term2_aWordFromTheVeryFirstByte(Due due) {
        Runs.hasContext(due, "Zz", 1, 0, 32, 0, 'Z', 'z');
    }

    static void term2_theFirstAndTheLastLetters(Due due) {
        Runs.hasContext(due, "1AZaz", 1, 0, 32, 0, 'A', 'Z', 'a', 'z');
    }

    static void term2_whatIsNextToLettersIsNone(Due due) {
        String none = "@[`{";
        for (int k = 0; k < none.length(); k++) {
            Runs.hasContext(due, "ab" + none.charAt(k) + "cd", 1, 0, 32, 0, 'c', 'd');
            Runs.hasContext(due, "ab" + none.charAt(k), 1, 0, 32, 0);
        }
    }

    static void term2_bytesAbove127AreNoLetters(Due due) {
        Runs.hasContext(due, "ab" + (char) ('A' + 128) + "cd", 1, 0, 32, 0, 'c', 'd');
        Runs.hasContext(due, "ab" + (char) 255 + "cd", 1, 0, 32, 0, 'c', 'd');
        Runs.hasContext(due, "ab" + (char) 0 + "cd", 1, 0, 32, 0, 'c', 'd');
    }

    private static void hasWord(Due due, String text, int letters) {
        int[] row = new int[2 + letters];
        row[0] = 32;
        for (int k = 0; k < letters; k++) {
            row[2 + k] = text.charAt(text.length() - letters + k);
        }
        Runs.hasContext(due, text, 1, 0, row);
    }

    static void term2_sixteenLettersAtMost(Due due) {
        hasWord(due, "1" + LETTERS.substring(0, 15), 15);
        hasWord(due, "1" + LETTERS.substring(0, 16), 16);
        hasWord(due, "1" + LETTERS.substring(0, 17), 16);
        hasWord(due, "1" + LETTERS, 16);
        hasWord(due, LETTERS.substring(0, 16), 16);
        hasWord(due, LETTERS.substring(0, 17), 16);
    }

    // "2, n 1 .. 64: .. the number of bytes that went modulo n, then the byte n before the one that is going".

    static void term2_columnsOfOne(Due due) {
        Runs.hasContext(due, "a", 2, 1, 65, 0, 0, 'a');
        Runs.hasContext(due, "ab", 2, 1, 65, 0, 0, 'b');
    }

    static void term2_columnsOf64(Due due) {
        StringBuilder text = new StringBuilder();
        for (int k = 0; k < 63; k++) {
            text.append((char) (100 + k));
        }
        Runs.hasContext(due, text.toString(), 2, 64, 128, 0, 63, 0);
        Runs.hasContext(due, text.append('x').toString(), 2, 64, 128, 0, 0, 100);
        Runs.hasContext(due, text.append('y').toString(), 2, 64, 128, 0, 1, 101);
    }

    static void term2_theNumberWrapsAtN(Due due) {
        Runs.hasContext(due, "abcd", 2, 5, 69, 0, 4, 0);
        Runs.hasContext(due, "abcde", 2, 5, 69, 0, 0, 'a');
        Runs.hasContext(due, "abcdef", 2, 5, 69, 0, 1, 'b');
    }

    // "3, n 1 .. 15: .. those of the latest four bytes whose bit of n is set (bit 0 the latest), the latest first".

    static void term2_everyChoiceOfTheLatestFour(Due due) {
        String text = "abcdefg";
        for (int n = 1; n <= 15; n++) {
            int[] row = new int[2 + Integer.bitCount(n)];
            row[0] = 128 + n;
            int at = 2;
            for (int k = 0; k < 4; k++) {
                if ((n & 1 << k) != 0) {
                    row[at++] = text.charAt(text.length() - 1 - k);
                }
            }
            Runs.hasContext(due, text, 3, n, row);
        }
    }

    // "A CONTEXT is worked out when a byte begins. Its SLOT for a bit: HASH of CONTEXT and NODE, its lowest ROOM bits;
    // the predictor's number does not count, so SLOTS may be shared."

    static void term2_theContextStaysWhileTheByteGoes(Due due) {
        ContextMix x = Runs.with(12, 0, 1);
        x.octet('a');
        String bits = "10110011";
        int node = 1;
        for (int k = 0; k < 8; k++) {
            int slot = Runs.slotOf(4096, node, 2, 0, 'a');
            int before = x.seen(0, slot);
            x.bit(bits.charAt(k) == '1');
            due.is("COUNT of NODE " + node, x.seen(0, slot), before + 1);
            node = node * 2 + (bits.charAt(k) - '0');
        }
    }

    static void term2_theLowestRoomBits(Due due) {
        for (int room = 6; room <= 12; room++) {
            ContextMix x = Runs.with(room, 3, 7);
            x.bit(true);
            int slot = Runs.slotOf(1 << room, 1, 135, 0, 0, 0, 0);
            for (int i = 0; i < 1 << room; i++) {
                due.is("seen(0, " + i + ") of room " + room, x.seen(0, i), i == slot ? 1 : 0);
            }
        }
    }

    static void term2_sharedSlotsAreChangedByEach(Due due) {
        ContextMix x = Runs.withSame(12, 8, 0);
        int slot = Runs.slotOf(4096, 1, 1, 0);
        x.bit(true);
        due.is("COUNT", x.seen(0, slot), 8);
        due.is("chance", x.slot(0, slot), chanceBehind(8, true, 32768, 0));
    }

    /** What a SLOT's chance is behind so many changes by the same bit. */
    private static int chanceBehind(int changes, boolean on, int chance, int count) {
        for (int k = 0; k < changes; k++) {
            long step = (long) ((on ? 65535 : 0) - chance) * (65536 / (Math.min(count + k, 30) + 2));
            chance += (int) Math.floorDiv(step, 65536L);
        }
        return chance;
    }

    // "COUNT 1 more, 30 at most"; "a chance (16 bits; 32,768 at first)".

    static void term2_countIsThirtyAtMost(Due due) {
        ContextMix x = Runs.with(12, 0, 0);
        int slot = Runs.slotOf(4096, 1, 1, 0);
        for (int k = 1; k <= 40; k++) {
            x.octet(255);
            due.is("COUNT behind " + k, x.seen(0, slot), Math.min(k, 30));
            due.is("chance behind " + k, x.slot(0, slot), chanceBehind(k, true, 32768, 0));
        }
    }

    static void term2_aChanceFallsToZero(Due due) {
        ContextMix x = Runs.withSame(12, 8, 0);
        int slot = Runs.slotOf(4096, 1, 1, 0);
        for (int k = 1; k <= 60; k++) {
            x.octet(0);
            due.is("chance behind " + k, x.slot(0, slot), chanceBehind(8 * k, false, 32768, 0));
        }
        due.is("it is 0", x.slot(0, slot), 0);
        due.is("its INPUT is STRETCH of 0", x.input(0, 0), -2047);
    }

    static void term2_aChanceStaysBelow65536(Due due) {
        ContextMix x = Runs.withSame(12, 8, 0);
        int slot = Runs.slotOf(4096, 1, 1, 0);
        for (int k = 1; k <= 60; k++) {
            x.octet(255);
            due.is("chance behind " + k, x.slot(0, slot), chanceBehind(8 * k, true, 32768, 0));
        }
        // (65,535 - 65,504) / 32 is 0: it grows no more.
        due.is("the most", x.slot(0, slot), 65504);
        due.is("its INPUT is STRETCH of 4,094", x.input(0, 0), 1984);
    }

    // "MATCH: .. LENGTH 1 more, 32 at most; else LENGTH 0. If LENGTH is 0: of the latest 64 places ..; (none: 0).
    // (Places within H.)"

    private static int lengthBehind(String text, int n) {
        ContextMix x = Runs.with(6, 4, n);
        Runs.write(x, text);
        return x.count(7);
    }

    static void term2_noMatchInNothing(Due due) {
        for (int n = 3; n <= 8; n++) {
            due.is("LENGTH in nothing", lengthBehind("", n), 0);
            ContextMix x = Runs.with(6, 4, n);
            due.is("its INPUT", x.input(0, 0), 0);
        }
    }

    static void term2_nBytesAtLeast(Due due) {
        String text = "abcdefghabcdefgh";
        for (int n = 3; n <= 8; n++) {
            due.is("n " + n + ", one byte short", lengthBehind(text.substring(0, 8 + n - 1), n), 0);
            due.is("n " + n, lengthBehind(text.substring(0, 8 + n), n), n);
        }
    }

    static void term2_placesWithinHAlone(Due due) {
        for (int n = 3; n <= 8; n++) {
            StringBuilder zeros = new StringBuilder();
            for (int k = 1; k <= n + 3; k++) {
                zeros.append((char) 0);
                // The bytes before all are 0 too, yet they are no places.
                due.is("n " + n + ", " + k + " zeros", lengthBehind(zeros.toString(), n), k > n ? k - 1 : 0);
            }
        }
    }

    private static String farApart(int back) {
        StringBuilder text = new StringBuilder("the");
        for (int k = 0; k < back - 3; k++) {
            text.append((char) (128 + k));
        }
        return text.append("the").toString();
    }

    static void term2_sixtyFourPlacesBack(Due due) {
        due.is("63 back", lengthBehind(farApart(63), 3), 3);
        due.is("64 back", lengthBehind(farApart(64), 3), 3);
        due.is("65 back", lengthBehind(farApart(65), 3), 0);
    }

    /** A MATCH that goes on is not looked for anew: it may point farther back than 64 places. */
    static void term2_aMatchGoesOnFromSixtyFourBack(Due due) {
        String text = farApart(64);
        due.is("one more", lengthBehind(text + (char) 128, 3), 4);
        due.is("two more", lengthBehind(text + (char) 128 + (char) 129, 3), 5);
    }

    static void term2_theLatestSuchPlace(Due due) {
        ContextMix x = Runs.with(6, 4, 3);
        // X is 01011000 and Y is 01011001.
        Runs.write(x, "abcXabcY");
        Runs.write(x, "abc");
        due.is("LENGTH", x.count(7), 3);
        Runs.bits(x, "0101100");
        due.is("Y is told", x.input(0, 0), 192);
    }

    static void term2_lengthIs32AtMost(Due due) {
        ContextMix x = Runs.with(6, 4, 3);
        for (int k = 1; k <= 60; k++) {
            x.octet("abcd".charAt(k % 4));
            due.is("LENGTH behind " + k, x.count(7), k < 7 ? 0 : Math.min(k - 4, 32));
        }
    }

    static void term2_aMatchOf32StillGoesOn(Due due) {
        ContextMix x = Runs.with(6, 4, 3);
        for (int k = 0; k < 60; k++) {
            x.octet("abcd".charAt(k % 4));
        }
        for (int k = 0; k < 8; k++) {
            boolean next = ("abcd".charAt(60 % 4) >> 7 - k & 1) == 1;
            due.is("bit " + k + " of the next byte", x.input(0, 0), next ? 1024 : -1024);
            x.bit(next);
        }
    }

    static void term2_anotherByteEndsAMatch(Due due) {
        due.is("before", lengthBehind("abcdXabcd", 3), 4);
        due.is("behind another byte", lengthBehind("abcdXabcdY", 3), 0);
    }

    static void term2_aLostMatchIsFoundAnewAtOnce(Due due) {
        ContextMix x = Runs.with(6, 4, 3);
        Runs.write(x, "bcY1abcdXabc");
        due.is("it points to d", x.count(7), 3);
        x.octet('Y');
        due.is("behind bcY again", x.count(7), 3);
        // 1 is 00110001.
        Runs.bits(x, "00");
        due.is("it points to 1", x.input(0, 0), 192);
    }

    /** That the byte it was lost at comes a byte later makes no LENGTH of 1. */
    static void term2_aLostMatchPointsNowhere(Due due) {
        due.is("behind the byte that was due", lengthBehind("abcdefabcXd", 3), 0);
        due.is("and the next", lengthBehind("abcdefabcXde", 3), 0);
    }

    // "Its INPUT: 0 without LENGTH, or when the bits of the byte going are not those of the byte there; else 64 times
    // (LENGTH, 16 at most), below 0 if the next bit there is 0."

    static void term2_sixteenAreToldAtMost(Due due) {
        ContextMix x = Runs.with(6, 4, 3);
        for (int k = 1; k <= 40; k++) {
            x.octet("abcd".charAt(k % 4));
            int length = k < 7 ? 0 : k - 4;
            due.is("INPUT behind " + k, x.input(0, 0), -64 * Math.min(length, 16));
        }
    }

    static void term2_theLeastLengthsOfEachN(Due due) {
        for (int n = 3; n <= 8; n++) {
            ContextMix x = Runs.with(6, 4, n);
            Runs.write(x, "\u00e1bcdefgh" + "\u00e1bcdefgh".substring(0, n));
            boolean next = n == 8;
            due.is("INPUT of n " + n, x.input(0, 0), next ? 64 * n : -64 * n);
        }
    }

    static void term2_otherBitsAreNotTold(Due due) {
        for (int other = 0; other < 8; other++) {
            ContextMix x = Runs.with(6, 4, 3);
            Runs.write(x, "abcXabc");
            String bits = "01011000";
            for (int k = 0; k < 8; k++) {
                int told = bits.charAt(k) == '1' ? 192 : -192;
                due.is("bit " + k + ", bit " + other + " being another", x.input(0, 0), k > other ? 0 : told);
                x.bit(k == other ? bits.charAt(k) == '0' : bits.charAt(k) == '1');
            }
            due.is("LENGTH behind another byte", x.count(7), 0);
        }
    }

    // "A predictor that is OFF has INPUT 0, and changes no SLOT (a MATCH is still found)."

    static void term2_anOffPredictorHasNoInput(Due due) {
        ContextMix x = Runs.with(12, 0, 0, 0, 0);
        x.off(0);
        x.octet(255);
        due.is("the OFF one", x.input(0, 0), 0);
        due.is("the other", x.input(0, 1), x.stretch(49151 / 16));
        due.is("the OFF one's weight", x.weight(0, 0, 1, 0), 20000);
    }

    static void term2_anOffPredictorChangesNoSlot(Due due) {
        ContextMix x = Runs.with(12, 0, 0, 0, 0);
        x.off(0);
        x.bit(true);
        int slot = Runs.slotOf(4096, 1, 1, 0);
        due.is("the other one changes it once", x.seen(0, slot), 1);
        ContextMix y = Runs.with(6, 0, 0);
        y.off(0);
        y.octet(77);
        for (int i = 0; i < 64; i++) {
            due.is("seen(0, " + i + ")", y.seen(0, i), 0);
            due.is("slot(0, " + i + ")", y.slot(0, i), 32768);
        }
    }

    static void term2_anOffPredictorIsOffOnBothSides(Due due) {
        ContextMix x = Runs.with(6, 0, 0, 0, 2);
        x.off(0);
        Runs.write(x, "both sides");
        x.end();
        Runs.reads(due, x, "both sides");
        due.is("input(1, 0)", x.input(1, 0), 0);
        due.is("equal()", x.equal(), 1);
    }

    static void term2_anOffMatchIsStillFound(Due due) {
        ContextMix x = Runs.with(6, 4, 3);
        x.off(0);
        Runs.write(x, "abcabcab");
        due.is("LENGTH", x.count(7), 5);
        due.is("INPUT", x.input(0, 0), 0);
    }

    static void term2_allOff(Due due) {
        ContextMix x = Runs.withSame(12, 8, 0);
        ContextMix none = new ContextMix(12);
        for (int i = 0; i < 8; i++) {
            x.off(i);
        }
        for (int k = 0; k < 20; k++) {
            due.is("as without predictors", x.octet(k * k), none.octet(k * k));
            due.is("chance(0)", x.chance(0), none.chance(0));
        }
    }

    // 3 MIXING: "bound to - 2,047 .. 2,047 before".

    /** Two bytes in turn, a surprise behind the other, then the one: as sure of the first bit behind it as before. */
    private static ContextMix sureButOnce(int one, int other, int surprise) {
        ContextMix x = Runs.withSame(12, 8, 1);
        for (int k = 0; k < 100; k++) {
            x.octet(one);
            x.octet(other);
        }
        x.octet(surprise);
        x.octet(one);
        return x;
    }

    static void term3_whatAMixerTellsIsBoundBelow(Due due) {
        ContextMix x = sureButOnce(1, 0, 128);
        due.is("each INPUT is the least", x.input(0, 0), -2047);
        due.is("C(1, 0) grew by 65,535 / 128 once", x.cell(0, 1, 0), 511);
        // Both told 1, SQUASH(- 2,047), where SQUASH of the sum would be 0: MIXED is 1.
        due.is("chance(0)", x.chance(0), (1 + 3 * ((511 * 127 + 32) / 2048) + 2) / 4);
    }

    static void term3_whatAMixerTellsIsBoundAbove(Due due) {
        ContextMix x = sureButOnce(254, 255, 127);
        due.is("each INPUT is the most", x.input(0, 0), 1984);
        due.is("C(1, 32) fell by 65,520 / 128 once", x.cell(0, 1, 32), 65520 - 512 - 65536);
        // Both told 4,094, SQUASH(2,047), where SQUASH of the sum would be 4,095: STRETCH(MIXED) is 1,984, w is 64.
        int c31 = x.cell(0, 1, 31) + 65536;
        due.is("chance(0)", x.chance(0), (4094 + 3 * ((c31 * 64 + 65008 * 64) / 2048) + 2) / 4);
    }

    // "THE CHANCE: .. bound to 1 .. 4,095".

    static void term3_theChanceIsOneAtLeast(Due due) {
        ContextMix x = Runs.withSame(12, 8, 0);
        int least = 4096;
        for (int k = 0; k < 100; k++) {
            x.octet(0);
            least = Math.min(least, x.chance(0));
        }
        // MIXED is 1 and CORRECTED is 0: (1 + 0 + 2) / 4 is 0.
        due.is("the least", least, 1);
        due.is("chance(0)", x.chance(0), 1);
        x.end();
        for (int k = 0; k < 100; k++) {
            due.is("what is sure is read back", x.get(), 0);
        }
    }

    static void term3_theChanceIs4095AtMost(Due due) {
        ContextMix x = Runs.withSame(12, 8, 0);
        int most = 0;
        for (int k = 0; k < 100; k++) {
            x.octet(255);
            most = Math.max(most, x.chance(0));
        }
        // MIXED is 4,094 at most, and so is CORRECTED, C(1, 31) being 65,488 and C(1, 32) 65,520.
        due.is("the most", most, (4094 + 3 * 4094 + 2) / 4);
        x.end();
        for (int k = 0; k < 100; k++) {
            due.is("what is sure is read back", x.get(), 255);
        }
    }

    // "The cell C(j), or C(j + 1) if w is 64 or more".

    static void term3_w63And64(Due due) {
        ContextMix x = new ContextMix(6);
        Runs.writeSame(x, 255, 72);
        due.is("w is 63", wOf(x, 255), 63);
        int lower = x.cell(0, 1, 16);
        int upper = x.cell(0, 1, 17);
        x.octet(255);
        due.holds("C(j) grew", x.cell(0, 1, 16) != lower);
        due.is("C(j + 1) did not", x.cell(0, 1, 17), upper);
        due.is("w is 64", wOf(x, 255), 64);
        lower = x.cell(0, 1, 16);
        x.octet(255);
        due.is("C(j) did not", x.cell(0, 1, 16), lower);
        due.holds("C(j + 1) grew", x.cell(0, 1, 17) != upper);
    }

    /** w of the first bit of a byte, without predictors. */
    private static int wOf(ContextMix x, int latest) {
        int byNode = x.squash(Math.floorDiv(256 * x.weight(0, 0, 1, 0), 65536));
        int byLatest = x.squash(Math.floorDiv(256 * x.weight(0, 1, latest, 0), 65536));
        return (x.stretch((byNode + byLatest + 1) / 2) + 2048) % 128;
    }

    static void term3_theFirstCellStaysAtZero(Due due) {
        ContextMix x = Runs.withSame(12, 8, 0);
        Runs.writeSame(x, 0, 200);
        due.is("C(1, 0)", x.cell(0, 1, 0), 0);
    }

    static void term3_theVeryLastCellLearns(Due due) {
        ContextMix x = Runs.withSame(12, 8, 0);
        Runs.writeSame(x, 255, 100);
        due.is("C(255, 32) at first", x.cell(0, 255, 32), 65520 - 65536);
        int before = x.cell(0, 255, 31);
        x.octet(254);
        due.is("C(255, 32) fell by 65,520 / 128", x.cell(0, 255, 32), 65520 - 512 - 65536);
        due.is("C(255, 31) did not", x.cell(0, 255, 31), before);
    }

    static void term3_aCellFallsToZero(Due due) {
        ContextMix x = Runs.withSame(12, 3, 0);
        int least = 32;
        for (int k = 0; k < 200; k++) {
            x.octet(0);
            due.holds("by 1 at a time", x.cell(0, 1, 1) == least || x.cell(0, 1, 1) == least - 1);
            least = x.cell(0, 1, 1);
        }
        due.is("C(1, 1)", least, 0);
    }

    static void term3_aCellGrowsNoMoreBelow128Short(Due due) {
        ContextMix x = Runs.withSame(12, 2, 0);
        Runs.writeSame(x, 255, 480);
        due.is("C(1, 28) is 65,408", x.cell(0, 1, 28), 65408 - 65536);
        x.octet(255);
        due.is("and stays", x.cell(0, 1, 28), 65408 - 65536);
    }

    // "each weight grows .., bound to - 1,000,000 .. 1,000,000."

    /**
     * A MATCH whose INPUT is 192 and that has this weight at NODE 1 of mixer 0, where the last INPUT's is the other.
     * No run of calls brings weights that far in 2,000 bytes, so they are set from outside.
     */
    private static ContextMix withWeights(int weight, int last) throws ReflectiveOperationException {
        ContextMix x = Runs.with(6, 4, 3);
        Runs.write(x, "abc\u00e1abc");
        int[] weights = (int[]) inside(inside(inside(x, "writer"), "byNode"), "weights");
        int row = weights.length / 256;
        weights[row] = weight;
        weights[row + row - 1] = last;
        return x;
    }

    private static Object inside(Object owner, String name) throws ReflectiveOperationException {
        Field field = owner.getClass().getDeclaredField(name);
        field.setAccessible(true);
        return field.get(owner);
    }

    /** How much the MATCH's weight grows with a bit that the last INPUT's weight spoke against. */
    private static int growth(ContextMix x, int weight, int last, boolean on) {
        int told = x.squash(Math.floorDiv(192 * weight + 256 * last, 65536));
        return Math.floorDiv(192 * ((on ? 4095 : 0) - told) * 7 + 32768, 65536);
    }

    static void term3_weightsAreBoundAbove(Due due) throws ReflectiveOperationException {
        int[] before = {999_000, 999_900, 999_950, 999_999, 1_000_000};
        for (int weight : before) {
            ContextMix x = withWeights(weight, -1_000_000);
            due.is("its INPUT", x.input(0, 0), 192);
            due.is("it is set", x.weight(0, 0, 1, 0), weight);
            int growth = growth(x, weight, -1_000_000, true);
            due.holds("it would grow by some 80", growth > 50 && growth < 100);
            x.bit(true);
            due.is("weight behind " + weight, x.weight(0, 0, 1, 0), Math.min(1_000_000, weight + growth));
        }
    }

    static void term3_weightsAreBoundBelow(Due due) throws ReflectiveOperationException {
        int[] before = {-999_000, -999_900, -999_950, -999_999, -1_000_000};
        for (int weight : before) {
            ContextMix x = withWeights(weight, 1_000_000);
            due.is("it is set", x.weight(0, 0, 1, 0), weight);
            int growth = growth(x, weight, 1_000_000, false);
            due.holds("it would fall by some 80", growth < -50 && growth > -100);
            x.bit(false);
            due.is("weight behind " + weight, x.weight(0, 0, 1, 0), Math.max(-1_000_000, weight + growth));
        }
    }

    // 4 CODER: "LOW 0, HIGH 2^32 - 1. M = LOW + (HIGH - LOW) / 4,096 times THE CHANCE. A 1: HIGH is M; a 0: LOW is M
    // and 1. While the highest 8 bits of both are the same: they come OUT, both times 256, HIGH 255 more."

    /** Writes bits as LOW and HIGH have it, given each chance(0): how many bytes the last of them brings OUT. */
    private static int codes(Due due, ContextMix x, String bits) {
        long low = 0;
        long high = 4294967295L;
        StringBuilder out = new StringBuilder();
        int last = 0;
        for (int k = 0; k < bits.length(); k++) {
            long m = low + (high - low) / 4096 * x.chance(0);
            high = bits.charAt(k) == '1' ? m : high;
            low = bits.charAt(k) == '1' ? low : m + 1;
            last = out.length();
            while (low / 16777216 == high / 16777216) {
                out.append((char) (low / 16777216));
                low = low * 256 % 4294967296L;
                high = high * 256 % 4294967296L + 255;
            }
            due.is("OUT behind bit " + k, x.bit(bits.charAt(k) == '1'), out.length());
        }
        for (int i = 0; i < out.length(); i++) {
            due.is("out(" + i + ")", x.out(i), out.charAt(i));
        }
        return out.length() - last;
    }

    private static void readsBits(Due due, ContextMix x, String bits) {
        x.end();
        for (int k = 0; k + 8 <= bits.length(); k += 8) {
            due.is("get() of byte " + k / 8, x.get(), Integer.parseInt(bits.substring(k, k + 8), 2));
        }
        due.is("get() behind them", x.get(), ContextMix.NONE);
        due.is("equal()", x.equal(), 1);
    }

    static void term4_highIsTheGreatestOf32Bits(Due due) {
        // Zeros leave HIGH as it is until LOW comes so near that they share their highest bits.
        ContextMix x = new ContextMix(6);
        String zeros = "0".repeat(160);
        codes(due, x, zeros);
        due.is("the first bytes are those of HIGH", x.out(0) & x.out(1), 255);
        readsBits(due, x, zeros);
    }

    static void term4_lowIsZero(Due due) {
        // Ones leave LOW as it is.
        ContextMix x = new ContextMix(6);
        String ones = "1".repeat(160);
        codes(due, x, ones);
        due.is("the first bytes are those of LOW", x.out(0) | x.out(1), 0);
        readsBits(due, x, ones);
    }

    /** The last of the first so many bits brings these bytes OUT at once; all are read back behind it. */
    private static void leaps(Due due, int predictors, String bits, int first, int leap) {
        ContextMix x = Runs.withSame(6, predictors, 0);
        due.is("bytes that it brings", codes(due, x, bits.substring(0, first)), leap);
        Runs.bits(x, bits.substring(first));
        readsBits(due, x, bits);
    }

    static void term4_aBitThatBringsTwoBytes(Due due) {
        leaps(due, 8, "00000000" + "10000000", 9, 2);
    }

    static void term4_aBitThatBringsThreeBytes(Due due) {
        leaps(due, 7, "00000000" + "0101010010101010", 17, 3);
    }

    /** HIGH - LOW is below 4,096, so M is LOW; behind the 1 HIGH is LOW too, and all four bytes come OUT. */
    static void term4_aBitThatBringsFourBytes(Due due) {
        leaps(due, 8, "00000000" + "1001001111101000", 19, 4);
    }

    static void term4_theEndIsTheFourBytesOfLow(Due due) {
        ContextMix x = new ContextMix(6);
        x.bit(true);
        due.is("behind a 1 LOW is 0", x.end(), 4);
        due.is("its bytes", x.out(0) + x.out(1) + x.out(2) + x.out(3), 0);
        ContextMix y = new ContextMix(6);
        y.bit(false);
        due.is("behind a 0", y.end(), 4);
        // (2^32 - 1) / 4,096 times 2,047, and 1.
        long low = 1048575L * 2047 + 1;
        for (int i = 0; i < 4; i++) {
            due.is("byte " + i + " of LOW", y.out(i), low >> 24 - 8 * i & 255);
        }
    }

    // "the bit is 1 if X is at most M".

    private static int readWithFirstBytes(long code) {
        ContextMix x = new ContextMix(6);
        x.octet(0);
        x.end();
        for (int i = 0; i < 4; i++) {
            Runs.setOut(x, i, (int) (code >> 24 - 8 * i & 255));
        }
        x.again();
        return x.get();
    }

    static void term4_xAtMostM(Due due) {
        long m = 1048575L * 2047;
        due.is("X is 0", readWithFirstBytes(0) >> 7, 1);
        due.is("X is M - 1", readWithFirstBytes(m - 1) >> 7, 1);
        due.is("X is M", readWithFirstBytes(m) >> 7, 1);
        due.is("X is M + 1", readWithFirstBytes(m + 1) >> 7, 0);
        due.is("X is the most", readWithFirstBytes(0xFFFFFFFFL) >> 7, 0);
    }

    // "READING begins with end(), and with again(): X is the first four bytes of OUT then (0 behind its end)".

    static void term4_theFirstFourBytesAreTakenByEnd(Due due) {
        ContextMix x = new ContextMix(6);
        Runs.write(x, "taken");
        x.end();
        for (int i = 0; i < 4; i++) {
            x.spoil(i, 255);
        }
        Runs.reads(due, x, "taken");
        x.again();
        due.holds("again() takes them anew", x.get() != 't');
    }

    static void term4_theFifthByteIsTakenLater(Due due) {
        ContextMix x = new ContextMix(6);
        Runs.write(x, "taken");
        x.end();
        x.spoil(4, 255);
        StringBuilder read = new StringBuilder();
        for (int k = 0; k < 5; k++) {
            read.append((char) x.get());
        }
        due.holds("it is read as it is then", !read.toString().equals("taken"));
    }

    static void term4_theFirstFourBytesAreTakenByAgain(Due due) {
        ContextMix x = new ContextMix(6);
        Runs.write(x, "taken");
        x.end();
        x.spoil(0, 255);
        x.again();
        x.spoil(0, 255);
        due.holds("as it was then", x.get() != 't');
        x.again();
        Runs.reads(due, x, "taken");
    }

    private static ContextMix zerosWith(int zeros, int bytes, int b) {
        ContextMix x = new ContextMix(6);
        Runs.writeSame(x, 0, zeros);
        x.end();
        for (int i = 0; i < x.count(3); i++) {
            Runs.setOut(x, i, i < bytes ? b : 0);
        }
        x.again();
        return x;
    }

    /** Behind the end of a shorter OUT side 1 reads what it reads in a longer one that has zeros there. */
    static void term4_zerosBehindTheEndOfOut(Due due) {
        for (int b = 0; b < 256; b += 15) {
            ContextMix x = zerosWith(60, 3000, b);
            ContextMix longer = zerosWith(100, x.count(3), b);
            due.holds("the other is longer", longer.count(3) > x.count(3) + 8);
            for (int k = 0; k < 60; k++) {
                due.is("get() of byte " + k + " where OUT is " + b, x.get(), longer.get());
            }
            due.is("out behind the end", x.out(x.count(3)), BAD);
        }
    }

    static void term4_zerosBehindTheEndOfAnEmptyOut(Due due) {
        ContextMix x = new ContextMix(6);
        x.octet(255);
        due.is("OUT is empty", x.count(3), 0);
        due.is("again() where X has no bytes", x.again(), 0);
        x.end();
        due.is("end() takes them anew", x.get(), 255);
    }
}
