import java.util.Arrays;

/** A mixer of many foretellers with a coder behind it; ../shared/DOC.md says what each call promises. */
public final class ContextMix {
    public static final int BAD = -1, NONE = -2, FULL = -3, STATE = -4;

    private static final int LEAST_ROOM = 6, MOST_ROOM = 12;
    private static final int MOST_PREDICTORS = 8;
    private static final int MOST_BYTES = 2000;
    private static final int MOST_OUT = 2992;
    private static final int BITS = 8;
    private static final int BAD_INPUT = -9999;
    private static final int BAD_STRETCH = -9999;
    private static final int BAD_WEIGHT = -2000000;
    private static final int BAD_CELL = 40000;

    private final Numbers numbers;
    private final Predictors predictors;
    private final Side writer;
    private final Side reader;
    private final Output output;
    private final Coder writing;
    private final Coder reading;
    private long code;
    private int codePlace;
    private boolean ended;

    public ContextMix(int room) {
        int bits = Numbers.bound(room, LEAST_ROOM, MOST_ROOM);
        numbers = new Numbers();
        predictors = new Predictors();
        writer = new Side(bits, predictors, numbers);
        reader = new Side(bits, predictors, numbers);
        output = new Output();
        writing = new Coder();
        reading = new Coder();
    }

    public int predictor(int kind, int n) {
        if (!Predictors.allows(kind, n)) {
            return BAD;
        }
        if (ended || writer.history.begun()) {
            return STATE;
        }
        int number = predictors.add(kind, n);
        // Both sides stand at the beginning of their first byte, which the new predictor has to know too.
        writer.beginByte();
        reader.beginByte();
        return number;
    }

    public int off(int i) {
        if (!predictors.has(i)) {
            return BAD;
        }
        if (ended || writer.history.begun()) {
            return STATE;
        }
        return predictors.turnOff(i) ? 1 : 0;
    }

    public int bit(boolean on) {
        if (ended) {
            return STATE;
        }
        if (isFull()) {
            return FULL;
        }
        writeBit(on);
        return output.size;
    }

    public int octet(int b) {
        if (ended || writer.history.bitsGoing != 0) {
            return STATE;
        }
        if (isFull()) {
            return FULL;
        }
        for (int k = BITS - 1; k >= 0; k--) {
            writeBit((b >> k & 1) == 1);
        }
        return output.size;
    }

    public int end() {
        if (ended) {
            return STATE;
        }
        for (int k = 0; k < Coder.BYTES; k++) {
            output.add(writing.highestOfLow());
            writing.shift();
        }
        ended = true;
        beginReading();
        return output.size;
    }

    public int get() {
        if (!ended) {
            return STATE;
        }
        if (reader.history.size >= writer.history.size) {
            return NONE;
        }
        int b = 0;
        for (int k = 0; k < BITS; k++) {
            b = b << 1 | (readBit() ? 1 : 0);
        }
        return b;
    }

    public int again() {
        int had = reader.history.size;
        reader.reset();
        beginReading();
        return had;
    }

    public int clear() {
        writer.reset();
        reader.reset();
        output.size = 0;
        writing.reset();
        ended = false;
        beginReading();
        return 1;
    }

    public int out(int i) {
        return output.has(i) ? output.byteAt(i) : BAD;
    }

    public int spoil(int i, int mask) {
        if (!output.has(i) || mask < 1 || mask > 255) {
            return BAD;
        }
        output.flip(i, mask);
        return output.byteAt(i);
    }

    public int chance(int side) {
        Side asked = sideOf(side);
        return asked == null ? BAD : asked.foretell();
    }

    public int input(int side, int i) {
        Side asked = sideOf(side);
        if (asked == null || !predictors.has(i)) {
            return BAD_INPUT;
        }
        return asked.inputOf(i);
    }

    public int weight(int side, int mixer, int set, int i) {
        Side asked = sideOf(side);
        if (asked == null || mixer < 0 || mixer > 1 || set < 0 || set >= Mixer.ROWS) {
            return BAD_WEIGHT;
        }
        Mixer told = mixer == 0 ? asked.byNode : asked.byLatest;
        if (i == predictors.size) {
            return told.weightAt(set, Mixer.LAST);
        }
        return predictors.has(i) ? told.weightAt(set, i) : BAD_WEIGHT;
    }

    public int slot(int side, int i) throws ArrayIndexOutOfBoundsException {
        Side asked = sideOf(side);
        if (asked == null) {
            return BAD;
        }
        if (!asked.slots.has(i)) {
            throw new ArrayIndexOutOfBoundsException("no such slot");
        }
        return asked.slots.chances[i];
    }

    public int seen(int side, int i) {
        Side asked = sideOf(side);
        if (asked == null || !asked.slots.has(i)) {
            return BAD;
        }
        return asked.slots.counts[i];
    }

    public int cell(int side, int node, int j) {
        Side asked = sideOf(side);
        if (asked == null || !Corrections.has(node, j)) {
            return BAD_CELL;
        }
        int value = asked.corrections.cellAt(node, j);
        return value > 32767 ? value - 65536 : value;
    }

    public int squash(int d) {
        return Numbers.squashed(d);
    }

    public int stretch(int p) {
        return p < 0 || p > 4095 ? BAD_STRETCH : numbers.stretched(p);
    }

    public int equal() {
        return writer.sameAs(reader) ? 1 : 0;
    }

    public int count(int what) {
        switch (what) {
            case 0: return predictors.size;
            case 1: return writer.history.size;
            case 2: return writer.history.bitsGoing;
            case 3: return output.size;
            case 4: return reader.history.size;
            case 5: return writer.slots.chances.length;
            case 6: return ended ? 1 : 0;
            case 7: return writer.firstMatchLength();
            default: return BAD;
        }
    }

    private Side sideOf(int side) {
        if (side == 0) {
            return writer;
        }
        return side == 1 ? reader : null;
    }

    private boolean isFull() {
        return writer.history.size >= MOST_BYTES || output.size > MOST_OUT;
    }

    private void writeBit(boolean on) {
        writing.narrow(on, writing.middle(writer.foretell()));
        for (int k = 0; k < Coder.BYTES && writing.settled(); k++) {
            output.add(writing.highestOfLow());
            writing.shift();
        }
        writer.learn(on);
    }

    private boolean readBit() {
        long middle = reading.middle(reader.foretell());
        boolean on = code <= middle;
        reading.narrow(on, middle);
        for (int k = 0; k < Coder.BYTES && reading.settled(); k++) {
            reading.shift();
            takeByte();
        }
        reader.learn(on);
        return on;
    }

    private void beginReading() {
        reading.reset();
        code = 0;
        codePlace = 0;
        for (int k = 0; k < Coder.BYTES; k++) {
            takeByte();
        }
    }

    private void takeByte() {
        int next = output.has(codePlace) ? output.byteAt(codePlace) : 0;
        code = (code << 8 & Coder.MOST) | next;
        codePlace++;
    }

    /** The whole numbers that both sides reckon with. */
    private static final class Numbers {
        private static final int MOST_STRETCH = 2047;
        private static final int[] CURVE = {
            1, 2, 3, 6, 10, 16, 27, 45, 73, 120, 194, 310, 488, 747, 1101, 1546, 2047,
            2549, 2994, 3348, 3607, 3785, 3901, 3975, 4022, 4050, 4068, 4079, 4085, 4089, 4092, 4093, 4094};

        private final int[] stretches = new int[4096];

        Numbers() {
            // The curve never falls, so the least d for p is found onward from the one for p - 1.
            int d = -MOST_STRETCH;
            for (int p = 0; p < stretches.length; p++) {
                while (d < MOST_STRETCH && squashed(d) < p) {
                    d++;
                }
                stretches[p] = d;
            }
        }

        int stretched(int p) {
            return stretches[bound(p, 0, stretches.length - 1)];
        }

        static int squashed(int d) {
            if (d > MOST_STRETCH) {
                return 4095;
            }
            if (d < -MOST_STRETCH) {
                return 0;
            }
            int k = (d >> 7) + 16;
            int w = d & 127;
            return (CURVE[k] * (128 - w) + CURVE[k + 1] * w + 64) >> 7;
        }

        static int hash(int a, int b) {
            int h = (a ^ 0x2545F491) * 0x9E3779B1 + b * 0x85EBCA6B;
            return h ^ (h >>> 15);
        }

        static int bound(int value, int least, int most) {
            return Math.max(least, Math.min(most, value));
        }

        static boolean same(int[] one, int[] other) {
            if (one.length != other.length) {
                return false;
            }
            for (int k = 0; k < one.length && k < other.length; k++) {
                if (one[k] != other[k]) {
                    return false;
                }
            }
            return true;
        }
    }

    /** What the predictors are; both sides share them. */
    private static final class Predictors {
        private static final int LATEST = 0, WORD = 1, COLUMN = 2, APART = 3, MATCH = 4;

        private final int[] kinds = new int[MOST_PREDICTORS];
        private final int[] ns = new int[MOST_PREDICTORS];
        private final boolean[] offs = new boolean[MOST_PREDICTORS];
        private int size;

        static boolean allows(int kind, int n) {
            switch (kind) {
                case LATEST: return n >= 0 && n <= 6;
                case WORD: return true;
                case COLUMN: return n >= 1 && n <= 64;
                case APART: return n >= 1 && n <= 15;
                case MATCH: return n >= 3 && n <= 8;
                default: return false;
            }
        }

        boolean has(int i) {
            return i >= 0 && i < size;
        }

        /** The number of the new one, or FULL. */
        int add(int kind, int n) {
            if (size >= MOST_PREDICTORS) {
                return FULL;
            }
            kinds[size] = kind;
            ns[size] = n;
            size++;
            return size - 1;
        }

        boolean turnOff(int i) {
            if (!has(i) || offs[i]) {
                return false;
            }
            offs[i] = true;
            return true;
        }
    }

    /** The bytes that went on a side, and the bits of the one that is going. */
    private static final class History {
        private static final int LONGEST_WORD = 16;

        private final int[] bytes = new int[MOST_BYTES];
        private int size;
        private int node = 1;
        private int bitsGoing;

        void reset() {
            size = 0;
            node = 1;
            bitsGoing = 0;
        }

        boolean begun() {
            return size > 0 || bitsGoing > 0;
        }

        /** The byte at a place of H; one before all is 0. */
        int byteAt(int place) {
            return place >= 0 && place < size ? bytes[place] : 0;
        }

        /** The byte so many steps before the one that is going: 1 is the latest. */
        int back(int steps) {
            int place = size - steps;
            return place >= 0 && place < size ? bytes[place] : 0;
        }

        /** Whether a byte went with this bit. */
        boolean add(boolean on) {
            node = node << 1 | (on ? 1 : 0);
            bitsGoing++;
            if (bitsGoing < BITS) {
                return false;
            }
            if (size < bytes.length) {
                bytes[size] = node & 255;
                size++;
            }
            node = 1;
            bitsGoing = 0;
            return true;
        }

        int contextOf(int kind, int n) {
            switch (kind) {
                case Predictors.LATEST: return latestContext(n);
                case Predictors.WORD: return wordContext();
                case Predictors.COLUMN: return columnContext(n);
                case Predictors.APART: return apartContext(n);
                default: return 0;
            }
        }

        private int latestContext(int n) {
            int h = Numbers.hash(n + 1, 0);
            for (int steps = 1; steps <= n; steps++) {
                h = Numbers.hash(h, back(steps));
            }
            return h;
        }

        private int wordContext() {
            int length = 0;
            while (length < LONGEST_WORD && isLetter(back(length + 1))) {
                length++;
            }
            int h = Numbers.hash(32, 0);
            for (int steps = length; steps >= 1; steps--) {
                h = Numbers.hash(h, back(steps));
            }
            return h;
        }

        private int columnContext(int n) {
            int column = n > 0 ? size % n : 0;
            int h = Numbers.hash(Numbers.hash(64 + n, 0), column);
            return Numbers.hash(h, back(n));
        }

        private int apartContext(int n) {
            int h = Numbers.hash(128 + n, 0);
            for (int k = 0; k < 4; k++) {
                if ((n >> k & 1) == 1) {
                    h = Numbers.hash(h, back(k + 1));
                }
            }
            return h;
        }

        /** Whether the n bytes before a place are the latest n. */
        boolean sameBefore(int place, int n) {
            for (int steps = 1; steps <= n; steps++) {
                if (byteAt(place - steps) != back(steps)) {
                    return false;
                }
            }
            return true;
        }

        boolean sameAs(History other) {
            if (size != other.size || node != other.node) {
                return false;
            }
            for (int k = 0; k < size; k++) {
                if (byteAt(k) != other.byteAt(k)) {
                    return false;
                }
            }
            return true;
        }

        private static boolean isLetter(int b) {
            return b >= 'A' && b <= 'Z' || b >= 'a' && b <= 'z';
        }
    }

    /** The longest match of one MATCH predictor on a side. */
    private static final class Match {
        private static final int LONGEST = 32, LONGEST_TOLD = 16;
        private static final int FARTHEST = 64;

        private int place;
        private int length;

        void follow(History history) {
            if (length > 0 && history.byteAt(place) == history.back(1)) {
                place++;
                length = Math.min(LONGEST, length + 1);
            } else {
                length = 0;
            }
        }

        void find(History history, int n) {
            if (length > 0) {
                return;
            }
            // The n bytes before a place must have gone too: what stands before all matches nothing.
            int first = Math.max(n, history.size - FARTHEST);
            for (int k = history.size - 1; k >= first; k--) {
                if (history.sameBefore(k, n)) {
                    place = k;
                    length = n;
                    return;
                }
            }
        }

        int told(History history) {
            int there = history.byteAt(place) | 256;
            int left = BITS - history.bitsGoing;
            if (length == 0 || there >> left != history.node) {
                return 0;
            }
            int strength = 64 * Math.min(LONGEST_TOLD, length);
            return (there >> (left - 1) & 1) == 1 ? strength : -strength;
        }
    }

    /** The chances that contexts have learned, by hash. */
    private static final class Slots {
        private static final int FIRST_CHANCE = 32768;
        private static final int MOST_COUNT = 30;

        private final int[] chances;
        private final int[] counts;

        Slots(int room) {
            int size = 1 << Numbers.bound(room, LEAST_ROOM, MOST_ROOM);
            chances = new int[size];
            counts = new int[size];
            Arrays.fill(chances, FIRST_CHANCE);
        }

        void reset() {
            Arrays.fill(chances, FIRST_CHANCE);
            Arrays.fill(counts, 0);
        }

        boolean has(int i) {
            return i >= 0 && i < chances.length;
        }

        int placeOf(int context, int node) {
            return Numbers.hash(context, node) & (chances.length - 1);
        }

        void learn(int i, boolean on) {
            if (!has(i)) {
                return;
            }
            int rate = 65536 / Math.max(2, counts[i] + 2);
            chances[i] += ((on ? 65535 : 0) - chances[i]) * rate >> 16;
            counts[i] = Math.min(MOST_COUNT, counts[i] + 1);
        }

        boolean sameAs(Slots other) {
            return Numbers.same(chances, other.chances) && Numbers.same(counts, other.counts);
        }
    }

    /** Rows of weights, one of which mixes the inputs. */
    private static final class Mixer {
        private static final int ROWS = 256;
        private static final int LAST = MOST_PREDICTORS;
        private static final int WIDTH = MOST_PREDICTORS + 1;
        private static final int FIRST_WEIGHT = 20000, MOST_WEIGHT = 1000000;

        private final int[] weights = new int[ROWS * WIDTH];
        private int row;
        private int told;

        Mixer() {
            fill(weights);
        }

        void reset() {
            fill(weights);
        }

        private static void fill(int[] weights) {
            Arrays.fill(weights, FIRST_WEIGHT);
            for (int k = LAST; k < weights.length; k += WIDTH) {
                weights[k] = 0;
            }
        }

        int weightAt(int set, int i) {
            return weights[Numbers.bound(set, 0, ROWS - 1) * WIDTH + Numbers.bound(i, 0, LAST)];
        }

        int tell(int set, int[] inputs) {
            row = Numbers.bound(set, 0, ROWS - 1) * WIDTH;
            long sum = 0;
            for (int i = 0; i < WIDTH && i < inputs.length; i++) {
                sum += (long) weights[row + i] * inputs[i];
            }
            long d = Math.max(-Numbers.MOST_STRETCH, Math.min(Numbers.MOST_STRETCH, sum >> 16));
            told = Numbers.squashed((int) d);
            return told;
        }

        void learn(boolean on, int[] inputs) {
            int error = ((on ? 4095 : 0) - told) * 7;
            for (int i = 0; i < WIDTH && i < inputs.length; i++) {
                int grown = weights[row + i] + (inputs[i] * error + 32768 >> 16);
                weights[row + i] = Numbers.bound(grown, -MOST_WEIGHT, MOST_WEIGHT);
            }
        }
    }

    /** The table that has the last word on what was mixed. */
    private static final class Corrections {
        private static final int ROWS = 256;
        private static final int WIDTH = 33;

        private final int[] cells = new int[ROWS * WIDTH];
        private int nearest;

        Corrections() {
            fill(cells);
        }

        void reset() {
            fill(cells);
        }

        private static void fill(int[] cells) {
            for (int j = 0; j < WIDTH && j < cells.length; j++) {
                cells[j] = Numbers.squashed((j - 16) * 128) * 16;
            }
            for (int start = WIDTH; start + WIDTH <= cells.length; start += WIDTH) {
                System.arraycopy(cells, 0, cells, start, WIDTH);
            }
        }

        static boolean has(int node, int j) {
            return node >= 0 && node < ROWS && j >= 0 && j < WIDTH;
        }

        int cellAt(int node, int j) {
            return has(node, j) ? cells[node * WIDTH + j] : 0;
        }

        int correct(int node, int stretched) {
            int s = stretched + 2048;
            int j = s >> 7;
            int w = s & 127;
            nearest = Numbers.bound(node * WIDTH + (w >= 64 ? j + 1 : j), 0, cells.length - 1);
            return cellAt(node, j) * (128 - w) + cellAt(node, j + 1) * w >> 11;
        }

        void learn(boolean on) {
            cells[nearest] += (on ? 65535 : 0) - cells[nearest] >> 7;
        }
    }

    /** One end: its tables, and what it has seen go. */
    private static final class Side {
        private static final int LAST_INPUT = 256;

        private final Predictors predictors;
        private final Numbers numbers;
        private final History history = new History();
        private final Slots slots;
        private final Mixer byNode = new Mixer();
        private final Mixer byLatest = new Mixer();
        private final Corrections corrections = new Corrections();
        private final Match[] matches = new Match[MOST_PREDICTORS];
        private final int[] contexts = new int[MOST_PREDICTORS];
        private final int[] inputs = new int[MOST_PREDICTORS + 1];

        Side(int room, Predictors predictors, Numbers numbers) {
            this.predictors = predictors;
            this.numbers = numbers;
            slots = new Slots(room);
            inputs[MOST_PREDICTORS] = LAST_INPUT;
            for (int i = 0; i < matches.length; i++) {
                matches[i] = new Match();
            }
        }

        void reset() {
            history.reset();
            slots.reset();
            byNode.reset();
            byLatest.reset();
            corrections.reset();
            for (int i = 0; i < matches.length; i++) {
                matches[i].length = 0;
            }
            beginByte();
        }

        void beginByte() {
            for (int i = 0; i < predictors.size; i++) {
                int kind = predictors.kinds[i];
                int n = predictors.ns[i];
                if (kind == Predictors.MATCH) {
                    matches[i].follow(history);
                    matches[i].find(history, n);
                } else {
                    contexts[i] = history.contextOf(kind, n);
                }
            }
        }

        int inputOf(int i) {
            if (!predictors.has(i) || predictors.offs[i]) {
                return 0;
            }
            if (predictors.kinds[i] == Predictors.MATCH) {
                return matches[i].told(history);
            }
            return numbers.stretched(slots.chances[slots.placeOf(contexts[i], history.node)] >> 4);
        }

        /** THE CHANCE of the next bit; learn() goes on from what this leaves behind. */
        int foretell() {
            for (int i = 0; i < predictors.size; i++) {
                inputs[i] = inputOf(i);
            }
            int told = byNode.tell(history.node, inputs) + byLatest.tell(history.back(1), inputs);
            int mixed = told + 1 >> 1;
            int corrected = corrections.correct(history.node, numbers.stretched(mixed));
            return Numbers.bound(mixed + 3 * corrected + 2 >> 2, 1, 4095);
        }

        void learn(boolean on) {
            byNode.learn(on, inputs);
            byLatest.learn(on, inputs);
            corrections.learn(on);
            for (int i = 0; i < predictors.size; i++) {
                if (!predictors.offs[i] && predictors.kinds[i] != Predictors.MATCH) {
                    slots.learn(slots.placeOf(contexts[i], history.node), on);
                }
            }
            if (history.add(on)) {
                beginByte();
            }
        }

        int firstMatchLength() {
            for (int i = 0; i < predictors.size; i++) {
                if (predictors.kinds[i] == Predictors.MATCH) {
                    return matches[i].length;
                }
            }
            return 0;
        }

        boolean sameAs(Side other) {
            return history.sameAs(other.history)
                && slots.sameAs(other.slots)
                && Numbers.same(byNode.weights, other.byNode.weights)
                && Numbers.same(byLatest.weights, other.byLatest.weights)
                && Numbers.same(corrections.cells, other.corrections.cells);
        }
    }

    /** The bounds that narrow with each bit; its numbers are of 32 bits without sign. */
    private static final class Coder {
        private static final int BYTES = 4;
        private static final long MOST = 0xFFFFFFFFL;

        private long low;
        private long high = MOST;

        void reset() {
            low = 0;
            high = MOST;
        }

        long middle(int chance) {
            return low + (high - low >> 12) * chance;
        }

        void narrow(boolean on, long middle) {
            if (on) {
                high = middle;
            } else {
                low = middle + 1;
            }
        }

        boolean settled() {
            return low >> 24 == high >> 24;
        }

        int highestOfLow() {
            return (int) (low >> 24) & 255;
        }

        void shift() {
            low = low << 8 & MOST;
            high = (high << 8 & MOST) | 255;
        }
    }

    /** The bytes that were written. */
    private static final class Output {
        // A byte begun at MOST_OUT brings at most four bytes for each of its bits, and the end four more.
        private static final int ROOM = MOST_OUT + Coder.BYTES * BITS + Coder.BYTES;

        private final int[] bytes = new int[ROOM];
        private int size;

        boolean has(int i) {
            return i >= 0 && i < size;
        }

        int byteAt(int i) {
            return has(i) ? bytes[i] : 0;
        }

        void add(int b) {
            if (size < bytes.length) {
                bytes[size] = b;
                size++;
            }
        }

        void flip(int i, int mask) {
            if (has(i)) {
                bytes[i] ^= mask;
            }
        }
    }
}
