/** Promises 1 to 11: a test of its own for each sentence that names a boundary case. */
public final class Edges1To11Test {
    private static final int BAD = ContextMix.BAD, NONE = ContextMix.NONE, FULL = ContextMix.FULL,
        STATE = ContextMix.STATE;
    private static final int LEAST = Integer.MIN_VALUE, MOST = Integer.MAX_VALUE;

    public static void main(String[] args) {
        Suite.run(Edges1To11Test.class);
    }

    // Promise 1: "ROOM 6 .. 12 (others as the nearest). No predictors."

    private static void hasSlots(Due due, int room, int slots) {
        ContextMix x = new ContextMix(room);
        due.is("count(5) of room " + room, x.count(5), slots);
        for (int side = 0; side < 2; side++) {
            due.is("the last slot of room " + room, Runs.slotOrThrows(x, side, slots - 1), 32768);
            due.is("the one behind it", Runs.slotOrThrows(x, side, slots), PlainMix.THROWS);
        }
    }

    static void promise1_aRoomTooSmallIsSix(Due due) {
        int[] rooms = {5, 1, 0, -1, -6, -12, LEAST};
        for (int room : rooms) {
            hasSlots(due, room, 64);
        }
    }

    static void promise1_aRoomTooLargeIsTwelve(Due due) {
        int[] rooms = {13, 16, 31, 32, 38, 64, MOST};
        for (int room : rooms) {
            hasSlots(due, room, 4096);
        }
    }

    static void promise1_roomsFromSixToTwelveAreKept(Due due) {
        int[] slots = {64, 128, 256, 512, 1024, 2048, 4096};
        for (int k = 0; k < slots.length; k++) {
            hasSlots(due, 6 + k, slots[k]);
        }
    }

    static void promise1_aNewObjectHasNoPredictors(Due due) {
        ContextMix x = new ContextMix(6);
        due.is("count(0)", x.count(0), 0);
        due.is("off(0)", x.off(0), BAD);
        due.is("input(0, 0)", x.input(0, 0), -9999);
        due.is("weight(0, 0, 0, 0) is the last INPUT's", x.weight(0, 0, 0, 0), 0);
        due.is("weight(0, 0, 0, 1)", x.weight(0, 0, 0, 1), -2000000);
    }

    static void promise1_aNewObjectIsEmpty(Due due) {
        ContextMix x = new ContextMix(6);
        int[] counts = {0, 0, 0, 0, 0, 64, 0, 0};
        for (int what = 0; what < counts.length; what++) {
            due.is("count(" + what + ")", x.count(what), counts[what]);
        }
        due.is("out(0)", x.out(0), BAD);
        due.is("get()", x.get(), STATE);
        due.is("equal()", x.equal(), 1);
    }

    // Promise 2: "One more predictor: its number. BAD: no such kind, n (kind 1: any n). STATE: bits were written,
    // or behind end(). FULL: 8."

    static void promise2_numbersCountFromZeroToSeven(Due due) {
        ContextMix x = new ContextMix(6);
        for (int k = 0; k < 8; k++) {
            due.is("predictor " + k, x.predictor(k % 2 == 0 ? 0 : 4, 3), k);
        }
    }

    static void promise2_noSuchKind(Due due) {
        ContextMix x = new ContextMix(6);
        int[] kinds = {-1, 5, 6, 256, -4, LEAST, MOST};
        for (int kind : kinds) {
            for (int n = -1; n <= 9; n++) {
                due.is("predictor(" + kind + ", " + n + ")", x.predictor(kind, n), BAD);
            }
        }
        due.is("none is added", x.count(0), 0);
    }

    private static void hasBounds(Due due, int kind, int least, int most) {
        ContextMix x = new ContextMix(6);
        due.is("below the least n", x.predictor(kind, least - 1), BAD);
        due.is("above the most n", x.predictor(kind, most + 1), BAD);
        due.is("far below", x.predictor(kind, LEAST), BAD);
        due.is("far above", x.predictor(kind, MOST), BAD);
        due.is("as many bits lower", x.predictor(kind, least + 256), BAD);
        due.is("none is added", x.count(0), 0);
        due.is("the least n", x.predictor(kind, least), 0);
        due.is("the most n", x.predictor(kind, most), 1);
    }

    static void promise2_nOfKind0IsZeroToSix(Due due) {
        hasBounds(due, 0, 0, 6);
    }

    static void promise2_kind1TakesAnyN(Due due) {
        ContextMix x = new ContextMix(6);
        int[] ns = {LEAST, -1, 0, 1, 9, 65, 256, MOST};
        for (int k = 0; k < ns.length; k++) {
            due.is("predictor(1, " + ns[k] + ")", x.predictor(1, ns[k]), k);
        }
    }

    static void promise2_nOfKind2IsOneTo64(Due due) {
        hasBounds(due, 2, 1, 64);
    }

    static void promise2_nOfKind3IsOneTo15(Due due) {
        hasBounds(due, 3, 1, 15);
    }

    static void promise2_nOfKind4IsThreeToEight(Due due) {
        hasBounds(due, 4, 3, 8);
    }

    static void promise2_stateBehindOneBit(Due due) {
        ContextMix x = new ContextMix(6);
        x.bit(false);
        due.is("predictor(0, 0)", x.predictor(0, 0), STATE);
        due.is("none is added", x.count(0), 0);
    }

    static void promise2_stateBehindAWholeByte(Due due) {
        ContextMix x = new ContextMix(6);
        x.octet(0);
        due.is("no bit of the next byte", x.count(2), 0);
        due.is("predictor(0, 0)", x.predictor(0, 0), STATE);
        due.is("none is added", x.count(0), 0);
    }

    static void promise2_stateBehindEndOfNothing(Due due) {
        ContextMix x = new ContextMix(6);
        x.end();
        due.is("predictor(0, 0)", x.predictor(0, 0), STATE);
        x.again();
        due.is("behind again() too", x.predictor(0, 0), STATE);
        due.is("none is added", x.count(0), 0);
    }

    static void promise2_refusedBitsAreNotWritten(Due due) {
        ContextMix x = new ContextMix(6);
        x.again();
        x.get();
        x.spoil(0, 1);
        due.is("predictor(0, 0) behind calls that write nothing", x.predictor(0, 0), 0);
    }

    static void promise2_clearLetsPredictorsBeToldAgain(Due due) {
        ContextMix x = Runs.with(6, 0, 0);
        x.octet(1);
        x.end();
        x.clear();
        due.is("predictor(0, 1)", x.predictor(0, 1), 1);
    }

    static void promise2_fullWithEight(Due due) {
        ContextMix x = Runs.withSame(12, 7, 1);
        due.is("the eighth", x.predictor(4, 8), 7);
        due.is("a ninth", x.predictor(4, 8), FULL);
        due.is("and again", x.predictor(1, 0), FULL);
        due.is("eight stay", x.count(0), 8);
    }

    static void promise2_fullStaysBehindClear(Due due) {
        ContextMix x = Runs.withSame(12, 8, 1);
        x.octet(5);
        x.clear();
        due.is("a ninth", x.predictor(0, 1), FULL);
    }

    static void promise2_theAnswersInTheirOrder(Due due) {
        ContextMix x = Runs.withSame(12, 8, 1);
        due.is("BAD before FULL", x.predictor(0, 7), BAD);
        x.bit(true);
        due.is("STATE before FULL", x.predictor(0, 1), STATE);
        due.is("BAD before STATE", x.predictor(0, 7), BAD);
    }

    static void promise2_aRefusedCallChangesNothing(Due due) {
        ContextMix x = Runs.withSame(12, 8, 1);
        ContextMix twin = Runs.withSame(12, 8, 1);
        x.predictor(0, -1);
        x.predictor(4, 3);
        Runs.same(due, "behind BAD and FULL", x, twin);
        Runs.write(x, "ab");
        Runs.write(twin, "ab");
        x.predictor(4, 3);
        Runs.same(due, "behind STATE", x, twin);
        x.octet('c');
        twin.octet('c');
        Runs.same(due, "and a byte later", x, twin);
    }

    // Promise 3: "A predictor is OFF: 1; 0: it was. BAD: none such. STATE: likewise."

    static void promise3_theSecondTimeIsZero(Due due) {
        ContextMix x = Runs.with(6, 0, 0, 1, 0);
        due.is("off(1)", x.off(1), 1);
        due.is("off(1) again", x.off(1), 0);
        due.is("and again", x.off(1), 0);
        due.is("the other is not", x.off(0), 1);
    }

    static void promise3_noneSuch(Due due) {
        ContextMix x = new ContextMix(6);
        due.is("off(0) without predictors", x.off(0), BAD);
        x.predictor(0, 0);
        x.predictor(4, 3);
        int[] none = {-1, 2, 7, 8, 256, LEAST, MOST};
        for (int i : none) {
            due.is("off(" + i + ")", x.off(i), BAD);
        }
        due.is("the first", x.off(0), 1);
        due.is("the last", x.off(1), 1);
    }

    static void promise3_theEighthCanBeOff(Due due) {
        ContextMix x = Runs.withSame(12, 8, 0);
        due.is("off(7)", x.off(7), 1);
        due.is("off(8)", x.off(8), BAD);
    }

    static void promise3_stateBehindOneBit(Due due) {
        ContextMix x = Runs.with(6, 0, 0);
        x.bit(true);
        due.is("off(0)", x.off(0), STATE);
    }

    static void promise3_stateBehindAWholeByte(Due due) {
        ContextMix x = Runs.with(6, 0, 0, 0, 1);
        x.off(1);
        x.octet(7);
        due.is("off(0)", x.off(0), STATE);
        due.is("off(1), which was OFF", x.off(1), STATE);
        due.is("off(2): BAD before STATE", x.off(2), BAD);
    }

    static void promise3_stateBehindEndOfNothing(Due due) {
        ContextMix x = Runs.with(6, 0, 0);
        x.end();
        due.is("off(0)", x.off(0), STATE);
        x.clear();
        due.is("behind clear()", x.off(0), 1);
    }

    static void promise3_aRefusedCallTurnsNothingOff(Due due) {
        ContextMix x = Runs.with(12, 0, 0);
        ContextMix twin = Runs.with(12, 0, 0);
        x.off(1);
        x.octet(255);
        twin.octet(255);
        x.off(0);
        Runs.same(due, "behind BAD and STATE", x, twin);
        due.is("its INPUT is still told", x.input(0, 0), x.stretch(49151 / 16));
    }

    // Promise 4: "A bit is written: how many bytes OUT has. STATE: behind end(). FULL: 2,000 bytes were written, or
    // OUT has more than 2,992."

    static void promise4_stateBehindEnd(Due due) {
        ContextMix x = Runs.with(6, 0, 1);
        ContextMix twin = Runs.with(6, 0, 1);
        Runs.write(x, "a");
        Runs.write(twin, "a");
        x.end();
        twin.end();
        due.is("bit(true)", x.bit(true), STATE);
        due.is("bit(false)", x.bit(false), STATE);
        Runs.same(due, "nothing is written", x, twin);
        x.clear();
        due.is("behind clear()", x.bit(true), 0);
    }

    static void promise4_theEighthBitMakesAByte(Due due) {
        ContextMix x = new ContextMix(6);
        for (int k = 1; k <= 17; k++) {
            x.bit(true);
            due.is("bits behind " + k, x.count(2), k % 8);
            due.is("bytes behind " + k, x.count(1), k / 8);
        }
    }

    /** 2,000 bytes take more than the 512 calls that are promised; FULL is kept all the same. */
    static void promise4_fullWith2000Bytes(Due due) {
        ContextMix x = new ContextMix(6);
        for (int k = 0; k < 1999; k++) {
            x.octet(k * k / 7);
        }
        due.holds("1,999 bytes are not FULL", Runs.bits(x, "1001001") > 0);
        due.is("seven bits of the last one", x.count(2), 7);
        int size = x.bit(true);
        due.holds("the last bit is written", size > 0);
        due.is("2,000 bytes", x.count(1), 2000);
        due.holds("it is not OUT that is full", size <= 2992);
        due.is("bit(true)", x.bit(true), FULL);
        due.is("bit(false)", x.bit(false), FULL);
        due.is("nothing more is OUT", x.count(3), size);
        due.is("no bit of a next byte", x.count(2), 0);
    }

    /** The less likely bit each time, with predictors that overdo it, takes far more room than it is worth. */
    private static int fillOut(ContextMix x) {
        int size = 0;
        for (int bits = 0; bits < 16000 && size <= 2992; bits++) {
            size = x.bit(x.chance(0) < 2048);
        }
        return size;
    }

    static void promise4_fullWithMoreThan2992BytesOut(Due due) {
        ContextMix x = Runs.withSame(12, 8, 3);
        int size = 0;
        int atTheEdge = 0;
        for (int bits = 0; bits < 16000 && size >= 0; bits++) {
            int before = size;
            size = x.bit(x.chance(0) < 2048);
            due.is("FULL with " + before + " OUT", size == FULL ? 1 : 0, before > 2992 ? 1 : 0);
            atTheEdge += before == 2992 && size != FULL ? 1 : 0;
        }
        due.is("it came to FULL", size, FULL);
        due.holds("before 2,000 bytes", x.count(1) < 2000);
        due.holds("bits were written with 2,992 OUT", atTheEdge > 0);
        due.holds("just above it", x.count(3) > 2992 && x.count(3) <= 2996);
    }

    static void promise4_stateBeforeFull(Due due) {
        ContextMix x = new ContextMix(6);
        Runs.writeSame(x, 0, 2000);
        due.is("bit(true)", x.bit(true), FULL);
        x.end();
        due.is("bit(true) behind end()", x.bit(true), STATE);
    }

    static void promise4_clearEmptiesWhatIsFull(Due due) {
        ContextMix x = new ContextMix(6);
        Runs.writeSame(x, 0, 2000);
        x.clear();
        due.is("bit(true)", x.bit(true), 0);
        due.is("a bit of the first byte", x.count(2), 1);
    }

    // Promise 5: "The lowest 8 bits of b are written, the highest first: how many bytes OUT has. STATE: a byte is in
    // the midst, or behind end(); FULL as bit()."

    static void promise5_theLowest8BitsAlone(Due due) {
        int[] bytes = {0, 255, 256, 511, -1, -128, -129, -256, LEAST, LEAST + 1, MOST, MOST - 255};
        int[] lowest = {0, 255, 0, 255, 255, 128, 127, 0, 0, 1, 255, 0};
        ContextMix x = Runs.with(8, 0, 1);
        ContextMix twin = Runs.with(8, 0, 1);
        for (int k = 0; k < bytes.length; k++) {
            due.is("octet(" + bytes[k] + ")", x.octet(bytes[k]), twin.octet(lowest[k]));
        }
        x.end();
        for (int k = 0; k < bytes.length; k++) {
            due.is("get() of " + bytes[k], x.get(), lowest[k]);
        }
    }

    static void promise5_theHighestBitFirst(Due due) {
        ContextMix x = Runs.with(6, 0, 0);
        ContextMix twin = Runs.with(6, 0, 0);
        due.is("octet(128)", x.octet(128), Runs.bits(twin, "10000000"));
        due.is("octet(1)", x.octet(1), Runs.bits(twin, "00000001"));
        Runs.same(due, "as bit by bit", x, twin);
    }

    static void promise5_stateInTheMidstOfAByte(Due due) {
        ContextMix x = Runs.with(6, 0, 0);
        ContextMix twin = Runs.with(6, 0, 0);
        due.holds("before the first bit", x.octet(9) >= 0);
        twin.octet(9);
        for (int k = 1; k <= 7; k++) {
            x.bit(k % 2 == 0);
            twin.bit(k % 2 == 0);
            due.is("octet(1) behind " + k + " bits", x.octet(1), STATE);
        }
        Runs.same(due, "nothing is written", x, twin);
        x.bit(true);
        due.holds("behind the eighth", x.octet(1) >= 0);
    }

    static void promise5_stateBehindEnd(Due due) {
        ContextMix x = Runs.with(6, 0, 0);
        ContextMix twin = Runs.with(6, 0, 0);
        x.end();
        twin.end();
        due.is("octet(1)", x.octet(1), STATE);
        Runs.same(due, "nothing is written", x, twin);
    }

    static void promise5_fullWith2000Bytes(Due due) {
        ContextMix x = new ContextMix(6);
        for (int k = 0; k < 1999; k++) {
            x.octet(k * k / 7);
        }
        int size = x.octet(9);
        due.holds("the 2,000th is written", size > 0 && x.count(1) == 2000);
        due.is("octet(1)", x.octet(1), FULL);
        due.is("nothing more is OUT", x.count(3), size);
        due.is("nothing more is written", x.count(1), 2000);
        due.is("end() all the same", x.end(), size + 4);
        due.is("STATE before FULL", x.octet(1), STATE);
    }

    /** What is FULL in the midst of a byte does not stop it: the octet that was begun is written whole. */
    static void promise5_fullWithMoreThan2992BytesOut(Due due) {
        ContextMix guide = Runs.withSame(12, 8, 3);
        ContextMix x = Runs.withSame(12, 8, 3);
        int size = 0;
        for (int k = 0; k < 2000 && size <= 2992; k++) {
            int b = 0;
            for (int bit = 0; bit < 8; bit++) {
                boolean on = guide.chance(0) < 2048;
                guide.bit(on);
                b = b << 1 | (on ? 1 : 0);
            }
            size = x.octet(b);
            due.is("it is written", x.count(1), k + 1);
        }
        due.holds("OUT has more than 2,992 before 2,000 bytes", size > 2992 && x.count(1) < 2000);
        due.holds("it came to that in the midst of the byte", guide.count(2) != 0);
        int bytes = x.count(1);
        due.is("octet(1)", x.octet(1), FULL);
        due.is("nothing more is OUT", x.count(3), size);
        due.is("nothing more is written", x.count(1), bytes);
        due.is("no byte is in the midst", x.count(2), 0);
    }

    static void promise5_stateInTheMidstBeforeFull(Due due) {
        ContextMix x = Runs.withSame(12, 8, 3);
        int size = fillOut(x);
        due.holds("FULL in the midst of a byte", size > 2992 && x.count(2) != 0);
        due.is("octet(1)", x.octet(1), STATE);
    }

    // Promise 6: "THE END is written (a byte in the midst stays so): how many bytes OUT has. STATE: it was."

    static void promise6_theEndOfNothing(Due due) {
        ContextMix x = new ContextMix(6);
        due.is("end()", x.end(), 4);
        for (int i = 0; i < 4; i++) {
            due.is("LOW is 0: out(" + i + ")", x.out(i), 0);
        }
        due.is("count(6)", x.count(6), 1);
    }

    static void promise6_aByteInTheMidstStaysSo(Due due) {
        for (int bits = 1; bits <= 7; bits++) {
            ContextMix x = Runs.with(6, 0, 0);
            x.octet(200);
            Runs.bits(x, "1011001".substring(0, bits));
            int size = x.count(3);
            int chance = x.chance(0);
            due.is("end()", x.end(), size + 4);
            due.is("bits of the next one", x.count(2), bits);
            due.is("bytes written whole", x.count(1), 1);
            due.is("chance(0) at its NODE", x.chance(0), chance);
        }
    }

    static void promise6_stateTheSecondTime(Due due) {
        ContextMix x = Runs.with(6, 0, 0);
        ContextMix twin = Runs.with(6, 0, 0);
        x.octet(3);
        twin.octet(3);
        x.end();
        twin.end();
        due.is("end()", x.end(), STATE);
        x.get();
        twin.get();
        due.is("end() behind get()", x.end(), STATE);
        Runs.same(due, "nothing is changed", x, twin);
        x.clear();
        due.is("behind clear()", x.end(), 4);
    }

    static void promise6_theEndOfWhatIsFull(Due due) {
        ContextMix x = Runs.withSame(12, 8, 3);
        int size = fillOut(x);
        due.holds("OUT is full", size > 2992);
        due.is("end()", x.end(), size + 4);
        due.holds("its last byte", x.out(size + 3) >= 0);
        due.is("none behind it", x.out(size + 4), BAD);
    }

    // Promise 7: "Side 1 reads a byte of OUT. STATE: not behind end(). NONE: it has read as many as were written
    // whole."

    static void promise7_stateBeforeEnd(Due due) {
        ContextMix x = Runs.with(6, 0, 0);
        due.is("get() of a new object", x.get(), STATE);
        Runs.write(x, "abcdefgh");
        due.is("get() behind bytes", x.get(), STATE);
        x.again();
        due.is("get() behind again()", x.get(), STATE);
        due.is("nothing is read", x.count(4), 0);
        x.end();
        due.is("get() behind end()", x.get(), 'a');
        x.clear();
        due.is("get() behind clear()", x.get(), STATE);
    }

    static void promise7_noneWhenNothingWasWritten(Due due) {
        ContextMix x = new ContextMix(6);
        x.end();
        due.is("get()", x.get(), NONE);
        due.is("bytes read", x.count(4), 0);
        due.is("equal()", x.equal(), 1);
    }

    static void promise7_noneOfAByteInTheMidst(Due due) {
        ContextMix x = new ContextMix(6);
        Runs.bits(x, "1111111");
        x.end();
        due.is("get() of seven bits", x.get(), NONE);
        ContextMix y = new ContextMix(6);
        Runs.bits(y, "11111111");
        y.end();
        due.is("get() of eight", y.get(), 255);
        due.is("and behind it", y.get(), NONE);
    }

    static void promise7_noneWhenAllWasRead(Due due) {
        ContextMix x = Runs.with(6, 0, 1, 4, 3);
        ContextMix twin = Runs.with(6, 0, 1, 4, 3);
        String text = "none, none, none";
        Runs.write(x, text);
        Runs.write(twin, text);
        x.end();
        twin.end();
        Runs.reads(due, x, text);
        Runs.reads(due, twin, text);
        due.is("get()", x.get(), NONE);
        due.is("get() again", x.get(), NONE);
        Runs.same(due, "nothing is read", x, twin);
        x.again();
        due.is("behind again()", x.get(), 'n');
    }

    static void promise7_noneBehindSpoiledBytesToo(Due due) {
        ContextMix x = new ContextMix(6);
        Runs.write(x, "ab");
        x.end();
        for (int i = 0; i < x.count(3); i++) {
            x.spoil(i, 255);
        }
        x.again();
        due.holds("the first", x.get() >= 0);
        due.holds("the second", x.get() >= 0);
        due.is("a third", x.get(), NONE);
    }

    static void promise7_everyByteComesBack(Due due) {
        ContextMix x = new ContextMix(6);
        for (int b = 0; b < 128; b++) {
            x.octet(b * 255);
        }
        x.octet(0);
        x.octet(255);
        x.end();
        for (int b = 0; b < 128; b++) {
            due.is("get()", x.get(), b * 255 & 255);
        }
        due.is("the least", x.get(), 0);
        due.is("the most", x.get(), 255);
    }

    // Promise 8: "Side 1 begins anew, its tables as at first: how many bytes it had read."

    static void promise8_ofNothingRead(Due due) {
        ContextMix x = Runs.with(6, 0, 1);
        due.is("again() of a new object", x.again(), 0);
        Runs.write(x, "abc");
        due.is("before end()", x.again(), 0);
        x.end();
        due.is("behind end()", x.again(), 0);
        x.get();
        due.is("of one byte", x.again(), 1);
        due.is("at once again", x.again(), 0);
    }

    static void promise8_ofAllRead(Due due) {
        ContextMix x = Runs.with(6, 0, 1, 4, 3);
        String text = "abcabcabcabc";
        Runs.write(x, text);
        x.end();
        Runs.reads(due, x, text);
        x.get();
        due.is("again()", x.again(), 12);
        due.is("none is read now", x.count(4), 0);
        Runs.reads(due, x, text);
        due.is("equal()", x.equal(), 1);
    }

    static void promise8_tablesAsAtFirst(Due due) {
        ContextMix x = Runs.with(6, 0, 1, 4, 3);
        ContextMix fresh = Runs.with(6, 0, 1, 4, 3);
        String text = "abcabcabcabc";
        Runs.write(x, text);
        Runs.write(fresh, text);
        x.end();
        fresh.end();
        Runs.reads(due, x, text);
        x.again();
        Runs.same(due, "as if nothing had been read", x, fresh);
    }

    static void promise8_doesNotWriteNorEnd(Due due) {
        ContextMix x = new ContextMix(6);
        Runs.write(x, "ab");
        x.bit(true);
        int size = x.count(3);
        x.again();
        int[] counts = {0, 2, 1, size, 0, 64, 0, 0};
        for (int what = 0; what < counts.length; what++) {
            due.is("count(" + what + ")", x.count(what), counts[what]);
        }
        due.holds("bit(true) goes on", x.bit(true) >= size);
    }

    // Promise 9: "All begins anew on both sides, predictors stay: 1."

    static void promise9_ofANewObject(Due due) {
        ContextMix x = new ContextMix(6);
        due.is("clear()", x.clear(), 1);
        due.is("clear() again", x.clear(), 1);
        Runs.same(due, "as new", x, new ContextMix(6));
    }

    static void promise9_inTheMidstOfAByte(Due due) {
        ContextMix x = Runs.with(6, 0, 1, 4, 3);
        Runs.write(x, "abcabcabc");
        Runs.bits(x, "0110");
        due.is("clear()", x.clear(), 1);
        ContextMix fresh = Runs.with(6, 0, 1, 4, 3);
        Runs.same(due, "as new with its predictors", x, fresh);
        Runs.write(x, "abc");
        Runs.write(fresh, "abc");
        due.is("end()", x.end(), fresh.end());
        Runs.same(due, "and OUT as new", x, fresh);
    }

    static void promise9_behindEndAndReading(Due due) {
        ContextMix x = Runs.with(6, 0, 1, 4, 3);
        ContextMix fresh = Runs.with(6, 0, 1, 4, 3);
        Runs.write(x, "abcabcabc");
        x.end();
        Runs.reads(due, x, "abcab");
        due.is("clear()", x.clear(), 1);
        Runs.same(due, "as new with its predictors", x, fresh);
        String text = "and on, and on";
        Runs.write(x, text);
        Runs.write(fresh, text);
        due.is("end()", x.end(), fresh.end());
        Runs.reads(due, x, text);
        Runs.reads(due, fresh, text);
        Runs.same(due, "and on as new", x, fresh);
    }

    static void promise9_predictorsStayEightAndOff(Due due) {
        ContextMix x = Runs.withSame(12, 8, 0);
        x.off(3);
        x.octet(1);
        x.clear();
        due.is("count(0)", x.count(0), 8);
        due.is("a ninth", x.predictor(0, 0), FULL);
        due.is("off(3), which was", x.off(3), 0);
        due.is("off(4), which was not", x.off(4), 1);
    }

    // Promise 10: "Byte i of OUT. BAD: none such."

    static void promise10_emptyOut(Due due) {
        ContextMix x = new ContextMix(6);
        due.is("out(0)", x.out(0), BAD);
        x.bit(true);
        due.is("out(0) while a bit alone was written", x.out(0), BAD);
        x.end();
        x.clear();
        due.is("out(0) behind clear()", x.out(0), BAD);
    }

    static void promise10_noneSuch(Due due) {
        ContextMix x = new ContextMix(6);
        // LOW is 1,048,575 times 2,047 and 1 behind a 0: 0x7FEFF802.
        x.bit(false);
        x.end();
        int[] low = {0x7F, 0xEF, 0xF8, 0x02};
        for (int i = 0; i < 4; i++) {
            due.is("out(" + i + ")", x.out(i), low[i]);
        }
        int[] none = {-1, 4, 5, 256, LEAST, MOST};
        for (int i : none) {
            due.is("out(" + i + ")", x.out(i), BAD);
        }
    }

    // Promise 11: "A byte of OUT is xored: what it is. BAD: no such place, mask 1 .. 255."

    private static ContextMix ended() {
        ContextMix x = new ContextMix(6);
        x.bit(false);
        x.end();
        return x;
    }

    static void promise11_noSuchPlace(Due due) {
        due.is("spoil(0, 1) of a new object", new ContextMix(6).spoil(0, 1), BAD);
        ContextMix x = ended();
        int[] none = {-1, 4, 5, 256, LEAST, MOST};
        for (int i : none) {
            due.is("spoil(" + i + ", 1)", x.spoil(i, 1), BAD);
            due.is("spoil(" + i + ", 0)", x.spoil(i, 0), BAD);
        }
        Runs.same(due, "nothing is xored", x, ended());
    }

    static void promise11_noSuchMask(Due due) {
        ContextMix x = ended();
        int[] masks = {0, 256, 257, 511, 65536, -1, -255, -256, LEAST, MOST};
        for (int mask : masks) {
            due.is("spoil(0, " + mask + ")", x.spoil(0, mask), BAD);
        }
        Runs.same(due, "nothing is xored", x, ended());
    }

    static void promise11_theLeastAndTheMostMask(Due due) {
        ContextMix x = ended();
        due.is("spoil(0, 1)", x.spoil(0, 1), 0x7E);
        due.is("out(0)", x.out(0), 0x7E);
        due.is("spoil(3, 255)", x.spoil(3, 255), 0xFD);
        due.is("out(3)", x.out(3), 0xFD);
        due.is("spoil(3, 255) again", x.spoil(3, 255), 0x02);
    }

    static void promise11_beforeEnd(Due due) {
        ContextMix x = new ContextMix(6);
        Runs.writeSame(x, 'a', 3);
        int was = x.out(0);
        due.is("spoil(0, 128)", x.spoil(0, 128), was ^ 128);
        due.is("spoil behind OUT", x.spoil(x.count(3), 128), BAD);
        x.end();
        due.is("it stays behind end()", x.out(0), was ^ 128);
        due.holds("side 1 reads what it is", x.get() != 'a');
    }
}
