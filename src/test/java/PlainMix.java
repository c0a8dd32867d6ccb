import java.util.ArrayList;
import java.util.HashMap;
import java.util.List;
import java.util.Map;

/**
 * The document a second time, sentence by sentence and without any thrift: tables are maps that hold only what
 * has changed, the bits of a byte are a text, every CONTEXT is worked out anew for every bit. Tests compare
 * ContextMix with it. It is by the same hand: where the document leaves room, both read it alike.
 */
final class PlainMix {
    static final int THROWS = Integer.MIN_VALUE;
    private static final int[] T = {1, 2, 3, 6, 10, 16, 27, 45, 73, 120, 194, 310, 488, 747, 1101, 1546, 2047, 2549,
        2994, 3348, 3607, 3785, 3901, 3975, 4022, 4050, 4068, 4079, 4085, 4089, 4092, 4093, 4094};

    private static final class Predictor {
        int kind;
        int n;
        boolean off;
    }

    private static final class End {
        List<Integer> h = new ArrayList<>();
        String bits = "";
        Map<Integer, Integer> slotChance = new HashMap<>();
        Map<Integer, Integer> slotCount = new HashMap<>();
        Map<String, Integer> weights = new HashMap<>();
        Map<String, Integer> cells = new HashMap<>();
        Map<Integer, Integer> matchPlace = new HashMap<>();
        Map<Integer, Integer> matchLength = new HashMap<>();
        long low = 0;
        long high = (1L << 32) - 1;
        long x;
        int next;

        int node() {
            return Integer.parseInt("1" + bits, 2);
        }

        int before(int k) {
            return h.size() - k >= 0 ? h.get(h.size() - k) : 0;
        }
    }

    private final int room;
    private final List<Predictor> predictors = new ArrayList<>();
    private List<Integer> out = new ArrayList<>();
    private End[] ends = {new End(), new End()};
    private boolean ended;

    PlainMix(int room) {
        this.room = room < 6 ? 6 : room > 12 ? 12 : room;
    }

    // 1 NUMBERS

    int squash(int d) {
        if (d > 2047) {
            return 4095;
        }
        if (d < -2047) {
            return 0;
        }
        int k = Math.floorDiv(d, 128) + 16;
        int w = Math.floorMod(d, 128);
        return Math.floorDiv(T[k] * (128 - w) + T[k + 1] * w + 64, 128);
    }

    int stretch(int p) {
        if (p < 0 || p > 4095) {
            return -9999;
        }
        for (int d = -2047; d <= 2047; d++) {
            if (squash(d) >= p) {
                return d;
            }
        }
        return 2047;
    }

    private final Map<Integer, Integer> stretched = new HashMap<>();

    private int keptStretch(int p) {
        if (!stretched.containsKey(p)) {
            stretched.put(p, stretch(p));
        }
        return stretched.get(p);
    }

    static int hash(int a, int b) {
        long m = 1L << 32;
        long first = (Integer.toUnsignedLong(a) ^ 0x2545F491L) * 0x9E3779B1L;
        long second = Integer.toUnsignedLong(b) * 0x85EBCA6BL;
        long h = Math.floorMod(Math.floorMod(first, m) + Math.floorMod(second, m), m);
        return (int) (h ^ (h / 32768));
    }

    private static int hashOfRow(List<Integer> row) {
        int h = hash(row.get(0), row.get(1));
        for (int k = 2; k < row.size(); k++) {
            h = hash(h, row.get(k));
        }
        return h;
    }

    // 2 SIDES

    private static boolean letter(int b) {
        return "ABCDEFGHIJKLMNOPQRSTUVWXYZabcdefghijklmnopqrstuvwxyz".indexOf(b) >= 0;
    }

    private static int context(End e, Predictor p) {
        List<Integer> row = new ArrayList<>();
        if (p.kind == 0) {
            row.add(p.n + 1);
            row.add(0);
            for (int k = 1; k <= p.n; k++) {
                row.add(e.before(k));
            }
        } else if (p.kind == 1) {
            row.add(32);
            row.add(0);
            int from = e.h.size();
            while (from > 0 && letter(e.h.get(from - 1))) {
                from--;
            }
            for (int k = Math.max(from, e.h.size() - 16); k < e.h.size(); k++) {
                row.add(e.h.get(k));
            }
        } else if (p.kind == 2) {
            row.add(64 + p.n);
            row.add(0);
            row.add(e.h.size() % p.n);
            row.add(e.before(p.n));
        } else {
            row.add(128 + p.n);
            row.add(0);
            for (int k = 0; k < 4; k++) {
                if ((p.n & (1 << k)) != 0) {
                    row.add(e.before(k + 1));
                }
            }
        }
        return hashOfRow(row);
    }

    private int slotOf(End e, Predictor p) {
        return Math.floorMod(hash(context(e, p), e.node()), 1 << room);
    }

    private int inputOf(End e, int i) {
        Predictor p = predictors.get(i);
        if (p.off) {
            return 0;
        }
        if (p.kind < 4) {
            return keptStretch(e.slotChance.getOrDefault(slotOf(e, p), 32768) / 16);
        }
        int length = e.matchLength.getOrDefault(i, 0);
        if (length == 0) {
            return 0;
        }
        String there = Integer.toBinaryString(256 + e.h.get(e.matchPlace.get(i))).substring(1);
        if (!there.startsWith(e.bits)) {
            return 0;
        }
        int told = 64 * Math.min(length, 16);
        return there.charAt(e.bits.length()) == '1' ? told : -told;
    }

    private void matchByte(End e, int i, int n) {
        int length = e.matchLength.getOrDefault(i, 0);
        Integer place = e.matchPlace.get(i);
        if (place != null && e.h.get(place).equals(e.h.get(e.h.size() - 1))) {
            e.matchPlace.put(i, place + 1);
            e.matchLength.put(i, Math.min(length + 1, 32));
            return;
        }
        e.matchLength.put(i, 0);
        e.matchPlace.remove(i);
        List<Integer> latest = e.h.size() < n ? null : e.h.subList(e.h.size() - n, e.h.size());
        for (int at = n; at < e.h.size(); at++) {
            if (at >= e.h.size() - 64 && latest != null && e.h.subList(at - n, at).equals(latest)) {
                e.matchPlace.put(i, at);
                e.matchLength.put(i, n);
            }
        }
    }

    // 3 MIXING

    private int weightOf(End e, int mixer, int set, int i) {
        return e.weights.getOrDefault(mixer + " " + set + " " + i, i == predictors.size() ? 0 : 20000);
    }

    private int cellOf(End e, int node, int j) {
        return e.cells.getOrDefault(node + " " + j, squash((j - 16) * 128) * 16);
    }

    private int setOf(End e, int mixer) {
        return mixer == 0 ? e.node() : e.before(1);
    }

    private int[] inputs(End e) {
        int[] row = new int[predictors.size() + 1];
        for (int i = 0; i < predictors.size(); i++) {
            row[i] = inputOf(e, i);
        }
        row[predictors.size()] = 256;
        return row;
    }

    private int told(End e, int mixer, int[] inputs) {
        long sum = 0;
        for (int i = 0; i < inputs.length; i++) {
            sum += (long) weightOf(e, mixer, setOf(e, mixer), i) * inputs[i];
        }
        long d = Math.floorDiv(sum, 65536L);
        return squash((int) (d < -2047 ? -2047 : d > 2047 ? 2047 : d));
    }

    private int mixed(End e, int[] inputs) {
        return (told(e, 0, inputs) + told(e, 1, inputs) + 1) / 2;
    }

    private int theChance(End e) {
        int mixed = mixed(e, inputs(e));
        int s = keptStretch(mixed) + 2048;
        int j = s / 128;
        int w = s % 128;
        int corrected = (cellOf(e, e.node(), j) * (128 - w) + cellOf(e, e.node(), j + 1) * w) / 2048;
        int chance = (mixed + 3 * corrected + 2) / 4;
        return chance < 1 ? 1 : chance > 4095 ? 4095 : chance;
    }

    private void behind(End e, boolean one) {
        int[] inputs = inputs(e);
        int s = keptStretch(mixed(e, inputs)) + 2048;
        int[] errors = {((one ? 4095 : 0) - told(e, 0, inputs)) * 7, ((one ? 4095 : 0) - told(e, 1, inputs)) * 7};
        for (int mixer = 0; mixer < 2; mixer++) {
            int set = setOf(e, mixer);
            for (int i = 0; i < inputs.length; i++) {
                int w = weightOf(e, mixer, set, i) + Math.floorDiv(inputs[i] * errors[mixer] + 32768, 65536);
                e.weights.put(mixer + " " + set + " " + i, Math.min(1000000, Math.max(-1000000, w)));
            }
        }
        int j = s % 128 >= 64 ? s / 128 + 1 : s / 128;
        int cell = cellOf(e, e.node(), j);
        e.cells.put(e.node() + " " + j, cell + Math.floorDiv((one ? 65535 : 0) - cell, 128));
        for (Predictor p : predictors) {
            if (p.kind < 4 && !p.off) {
                int slot = slotOf(e, p);
                int chance = e.slotChance.getOrDefault(slot, 32768);
                int count = e.slotCount.getOrDefault(slot, 0);
                long step = (long) ((one ? 65535 : 0) - chance) * (65536 / (count + 2));
                e.slotChance.put(slot, chance + (int) Math.floorDiv(step, 65536L));
                e.slotCount.put(slot, Math.min(count + 1, 30));
            }
        }
        e.bits += one ? "1" : "0";
        if (e.bits.length() == 8) {
            e.h.add(Integer.parseInt(e.bits, 2));
            e.bits = "";
            for (int i = 0; i < predictors.size(); i++) {
                if (predictors.get(i).kind == 4) {
                    matchByte(e, i, predictors.get(i).n);
                }
            }
        }
    }

    // 4 CODER

    private int outOrNothing(int i) {
        return i < out.size() ? out.get(i) : 0;
    }

    private void code(End e, boolean one, long m, boolean writes) {
        if (one) {
            e.high = m;
        } else {
            e.low = m + 1;
        }
        while (e.low / (1 << 24) == e.high / (1 << 24)) {
            if (writes) {
                out.add((int) (e.low / (1 << 24)));
            } else {
                e.x = e.x * 256 % (1L << 32) + outOrNothing(e.next++);
            }
            e.low = e.low * 256 % (1L << 32);
            e.high = e.high * 256 % (1L << 32) + 255;
        }
    }

    private static long m(End e, int chance) {
        return e.low + (e.high - e.low) / 4096 * chance;
    }

    private void write(boolean one) {
        code(ends[0], one, m(ends[0], theChance(ends[0])), true);
        behind(ends[0], one);
    }

    private void beginReading() {
        End e = ends[1];
        e.x = 0;
        e.next = 0;
        for (int k = 0; k < 4; k++) {
            e.x = e.x * 256 + outOrNothing(e.next++);
        }
    }

    // The promises

    private boolean begun() {
        return ended || !ends[0].h.isEmpty() || !ends[0].bits.isEmpty();
    }

    int predictor(int kind, int n) {
        int[] least = {0, Integer.MIN_VALUE, 1, 1, 3};
        int[] most = {6, Integer.MAX_VALUE, 64, 15, 8};
        if (kind < 0 || kind > 4 || n < least[kind] || n > most[kind]) {
            return -1;
        }
        if (begun()) {
            return -4;
        }
        if (predictors.size() == 8) {
            return -3;
        }
        Predictor p = new Predictor();
        p.kind = kind;
        p.n = n;
        predictors.add(p);
        return predictors.size() - 1;
    }

    int off(int i) {
        if (i < 0 || i >= predictors.size()) {
            return -1;
        }
        if (begun()) {
            return -4;
        }
        boolean was = predictors.get(i).off;
        predictors.get(i).off = true;
        return was ? 0 : 1;
    }

    int bit(boolean on) {
        if (ended) {
            return -4;
        }
        if (ends[0].h.size() == 2000 || out.size() > 2992) {
            return -3;
        }
        write(on);
        return out.size();
    }

    int octet(int b) {
        if (ended || !ends[0].bits.isEmpty()) {
            return -4;
        }
        if (ends[0].h.size() == 2000 || out.size() > 2992) {
            return -3;
        }
        for (int mask = 128; mask > 0; mask /= 2) {
            write((b & mask) != 0);
        }
        return out.size();
    }

    int end() {
        if (ended) {
            return -4;
        }
        for (int shift = 24; shift >= 0; shift -= 8) {
            out.add((int) ((ends[0].low >> shift) % 256));
        }
        ended = true;
        beginReading();
        return out.size();
    }

    int get() {
        if (!ended) {
            return -4;
        }
        End e = ends[1];
        if (e.h.size() == ends[0].h.size()) {
            return -2;
        }
        for (int k = 0; k < 8; k++) {
            long m = m(e, theChance(e));
            boolean one = e.x <= m;
            code(e, one, m, false);
            behind(e, one);
        }
        return e.before(1);
    }

    int again() {
        int had = ends[1].h.size();
        ends[1] = new End();
        beginReading();
        return had;
    }

    int clear() {
        ends = new End[] {new End(), new End()};
        out = new ArrayList<>();
        ended = false;
        return 1;
    }

    int out(int i) {
        return i >= 0 && i < out.size() ? out.get(i) : -1;
    }

    int spoil(int i, int mask) {
        if (i < 0 || i >= out.size() || mask < 1 || mask > 255) {
            return -1;
        }
        out.set(i, out.get(i) ^ mask);
        return out.get(i);
    }

    private static boolean isSide(int side) {
        return side == 0 || side == 1;
    }

    int chance(int side) {
        return isSide(side) ? theChance(ends[side]) : -1;
    }

    int input(int side, int i) {
        return isSide(side) && i >= 0 && i < predictors.size() ? inputOf(ends[side], i) : -9999;
    }

    int weight(int side, int mixer, int set, int i) {
        if (!isSide(side) || mixer < 0 || mixer > 1 || set < 0 || set > 255 || i < 0 || i > predictors.size()) {
            return -2000000;
        }
        return weightOf(ends[side], mixer, set, i);
    }

    /** THROWS stands for the ArrayIndexOutOfBoundsException. */
    int slot(int side, int i) {
        if (!isSide(side)) {
            return -1;
        }
        return i < 0 || i >= 1 << room ? THROWS : ends[side].slotChance.getOrDefault(i, 32768);
    }

    int seen(int side, int i) {
        return isSide(side) && i >= 0 && i < 1 << room ? ends[side].slotCount.getOrDefault(i, 0) : -1;
    }

    int cell(int side, int node, int j) {
        if (!isSide(side) || node < 0 || node > 255 || j < 0 || j > 32) {
            return 40000;
        }
        return (short) cellOf(ends[side], node, j);
    }

    int equal() {
        if (!ends[0].h.equals(ends[1].h) || !ends[0].bits.equals(ends[1].bits)) {
            return 0;
        }
        for (int i = 0; i < 1 << room; i++) {
            if (slot(0, i) != slot(1, i) || seen(0, i) != seen(1, i)) {
                return 0;
            }
        }
        for (int set = 0; set < 256; set++) {
            for (int k = 0; k < 33; k++) {
                boolean same = cell(0, set, k) == cell(1, set, k) && weight(0, 0, set, k) == weight(1, 0, set, k)
                    && weight(0, 1, set, k) == weight(1, 1, set, k);
                if (!same) {
                    return 0;
                }
            }
        }
        return 1;
    }

    int count(int what) {
        int length = 0;
        for (int i = predictors.size() - 1; i >= 0; i--) {
            length = predictors.get(i).kind == 4 ? ends[0].matchLength.getOrDefault(i, 0) : length;
        }
        int[] counts = {predictors.size(), ends[0].h.size(), ends[0].bits.length(), out.size(), ends[1].h.size(),
            1 << room, ended ? 1 : 0, length};
        return what >= 0 && what < counts.length ? counts[what] : -1;
    }
}
