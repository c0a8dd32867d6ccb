import java.util.Random;

/** Random runs of at most 512 calls: ContextMix must answer what PlainMix, the document written out, answers. */
public final class ModelTest {
    private static final int RUNS = 400;
    private static final int CALLS = 512;
    private static final int[] ODD = {Integer.MIN_VALUE, -4097, -2, -1, 0, 1, 2, 3, 7, 8, 9, 16, 32, 33, 63, 64, 65,
        255, 256, 4095, 4096, 65536, Integer.MAX_VALUE};

    private final Due due;
    private final Random random;
    private final int run;
    private final ContextMix mix;
    private final PlainMix plain;
    private final int style;
    private int calls;
    private int wrote;

    private ModelTest(Due due, int run) {
        this.due = due;
        this.run = run;
        random = new Random(run);
        int room = run % 3 == 0 ? ODD[random.nextInt(ODD.length)] : 5 + random.nextInt(9);
        style = random.nextInt(7);
        mix = new ContextMix(room);
        plain = new PlainMix(room);
    }

    public static void main(String[] args) {
        Due due = new Due("ModelTest");
        for (int run = 0; run < RUNS; run++) {
            new ModelTest(due, run).go();
        }
        due.end();
    }

    private void go() {
        int rounds = 1 + random.nextInt(3);
        for (int round = 0; round < rounds; round++) {
            tellPredictors();
            int bytes = random.nextInt(4) == 0 ? random.nextInt(8) : random.nextInt(rounds == 1 ? 330 : 110);
            for (int k = 0; k < bytes && calls < CALLS - 60; k++) {
                writeOne();
                if (random.nextInt(12) == 0) {
                    look();
                }
            }
            readBack(bytes);
            if (round + 1 < rounds) {
                is("clear()", mix.clear(), plain.clear());
            }
        }
        while (calls < CALLS) {
            look();
        }
        compareTables();
    }

    private void tellPredictors() {
        int most = random.nextInt(10);
        for (int k = 0; k < most; k++) {
            int kind = random.nextInt(5);
            int[] least = {0, -9, 1, 1, 3};
            int[] span = {7, 20, 64, 15, 6};
            int n = least[kind] + random.nextInt(span[kind]);
            if (kind == 2 && random.nextBoolean()) {
                n = 1 + random.nextInt(8);
            }
            predictor(kind, n);
            if (random.nextInt(6) == 0) {
                predictor(random.nextInt(7) - 1, odd());
            }
            if (random.nextInt(5) == 0) {
                off(random.nextInt(9) - 1);
            }
        }
    }

    private void writeOne() {
        int what = random.nextInt(60);
        if (what == 0) {
            for (int k = random.nextInt(11); k > 0; k--) {
                bit(random.nextBoolean());
            }
        } else if (what == 1) {
            octet(odd());
        } else if (what == 2) {
            predictor(random.nextInt(5), random.nextInt(9));
            off(random.nextInt(9) - 1);
        } else if (what == 3) {
            is("get()", mix.get(), plain.get());
            is("again()", mix.again(), plain.again());
        } else if (what == 4) {
            spoilOne();
        } else if (plain.count(2) != 0 && random.nextInt(3) != 0) {
            bit(random.nextBoolean());
        } else {
            octet(nextByte());
        }
    }

    private int nextByte() {
        String text = "The cat and the hat, the Zebra [and] the @nt; Incomprehensibilitiesandmore the cat`s{hat} ";
        wrote++;
        switch (style) {
            case 0: return text.charAt(wrote % text.length());
            case 1: return random.nextInt(256);
            case 2: return wrote % 7;
            case 3: return random.nextInt(40) == 0 ? 1 : 0;
            case 4: return wrote % 90 == 5 ? 1 : random.nextInt(25) == 0 ? 200 : wrote * wrote % 70 | 128;
            case 5: return "abcab".charAt(random.nextInt(5));
            // The less likely bit each time drives weights and chances to their bounds.
            default: return plain.chance(0) > 2048 ? 0 : 255;
        }
    }

    private void readBack(int bytes) {
        if (random.nextInt(10) == 0) {
            return;
        }
        is("end()", mix.end(), plain.end());
        int reads = random.nextInt(3) == 0 ? random.nextInt(bytes + 2) : bytes + 2;
        for (int k = 0; k < reads && calls < CALLS - 20; k++) {
            is("get()", mix.get(), plain.get());
            if (random.nextInt(15) == 0) {
                look();
            }
            if (run % 4 == 0 && random.nextInt(9) == 0) {
                spoilOne();
            }
            if (random.nextInt(60) == 0) {
                is("again()", mix.again(), plain.again());
            }
        }
        is("equal()", mix.equal(), plain.equal());
        if (random.nextInt(3) == 0) {
            is("end()", mix.end(), plain.end());
            octet(1);
            bit(true);
            predictor(0, 1);
            off(0);
        }
    }

    private void look() {
        int side = random.nextInt(8) == 0 ? odd() : random.nextInt(2);
        int i = random.nextInt(8) == 0 ? odd() : random.nextInt(10);
        int set = random.nextInt(8) == 0 ? odd() : random.nextInt(4) == 0 ? 1 : random.nextInt(256);
        int mixer = random.nextInt(8) == 0 ? odd() : random.nextInt(2);
        int j = random.nextInt(8) == 0 ? odd() : random.nextInt(34);
        int slot = random.nextInt(8) == 0 ? odd() : random.nextInt(plain.count(5) + 1);
        int p = random.nextInt(3) == 0 ? odd() : random.nextInt(4200) - 50;
        switch (random.nextInt(11)) {
            case 0: is("chance(" + side + ")", mix.chance(side), plain.chance(side)); break;
            case 1: is("input(" + side + ", " + i + ")", mix.input(side, i), plain.input(side, i)); break;
            case 2:
                is("weight(" + side + ", " + mixer + ", " + set + ", " + i + ")", mix.weight(side, mixer, set, i),
                    plain.weight(side, mixer, set, i));
                break;
            case 3:
                is("slot(" + side + ", " + slot + ")", Runs.slotOrThrows(mix, side, slot), plain.slot(side, slot));
                break;
            case 4: is("seen(" + side + ", " + slot + ")", mix.seen(side, slot), plain.seen(side, slot)); break;
            case 5:
                is("cell(" + side + ", " + set + ", " + j + ")", mix.cell(side, set, j), plain.cell(side, set, j));
                break;
            case 6: is("squash(" + p + ")", mix.squash(p), plain.squash(p)); break;
            case 7: is("stretch(" + p + ")", mix.stretch(p), plain.stretch(p)); break;
            case 8: is("equal()", mix.equal(), plain.equal()); break;
            case 9: is("out(" + slot + ")", mix.out(slot), plain.out(slot)); break;
            default: is("count(" + i + ")", mix.count(i), plain.count(i)); break;
        }
    }

    /** Looking changes nothing, so the whole tables are compared though these calls are beyond the 512. */
    private void compareTables() {
        for (int side = 0; side < 2; side++) {
            for (int i = 0; i < plain.count(5); i++) {
                is("slot at the end", mix.slot(side, i), plain.slot(side, i));
                is("seen at the end", mix.seen(side, i), plain.seen(side, i));
            }
            for (int set = 0; set < 256; set++) {
                for (int i = 0; i <= 33; i++) {
                    is("cell at the end", mix.cell(side, set, i), plain.cell(side, set, i));
                }
                for (int i = 0; i <= 9; i++) {
                    is("weight at the end", mix.weight(side, 0, set, i), plain.weight(side, 0, set, i));
                    is("weight at the end", mix.weight(side, 1, set, i), plain.weight(side, 1, set, i));
                }
            }
        }
        for (int i = 0; i <= plain.count(3); i++) {
            is("out at the end", mix.out(i), plain.out(i));
        }
        for (int i = 0; i < 8; i++) {
            is("count at the end", mix.count(i), plain.count(i));
        }
    }

    private void predictor(int kind, int n) {
        is("predictor(" + kind + ", " + n + ")", mix.predictor(kind, n), plain.predictor(kind, n));
    }

    private void off(int i) {
        is("off(" + i + ")", mix.off(i), plain.off(i));
    }

    private void bit(boolean on) {
        is("bit(" + on + ")", mix.bit(on), plain.bit(on));
    }

    private void octet(int b) {
        is("octet(" + b + ")", mix.octet(b), plain.octet(b));
    }

    private void spoilOne() {
        int i = random.nextInt(4) == 0 ? odd() : random.nextInt(plain.count(3) + 1);
        int mask = random.nextInt(4) == 0 ? odd() : 1 + random.nextInt(255);
        is("spoil(" + i + ", " + mask + ")", mix.spoil(i, mask), plain.spoil(i, mask));
    }

    private int odd() {
        return ODD[random.nextInt(ODD.length)];
    }

    private void is(String call, long got, long want) {
        calls++;
        due.is("run " + run + " call " + calls + ": " + call, got, want);
    }
}
