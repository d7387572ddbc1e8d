import java.util.ArrayList;
import java.util.HashMap;
import java.util.Iterator;
import java.util.LinkedHashMap;
import java.util.List;
import java.util.Map;
import java.util.NoSuchElementException;

/**
 * The document once more, written without a look at the class: slow, with the library's maps and
 * lists, and by trying all where the class reckons. RandomRunsTest holds the two against each other.
 */
final class Model {
    private static final long[] CODE = allWords();
    private static final Map<Long, Long> MENDED = new HashMap<>();

    private static final class Mark {
        int[] nibbles = new int[8];
        boolean[] weak = new boolean[8];

        Mark(long word) {
            for (int p = 0; p < 8; p++) {
                nibbles[p] = (int) (word >> (4 * p) & 15);
            }
        }

        long number() {
            long number = 0;
            for (int p = 7; p >= 0; p--) {
                number = number * 16 + nibbles[p];
            }
            return number;
        }

        int weakBits() {
            int bits = 0;
            for (int p = 0; p < 8; p++) {
                bits += weak[p] ? 1 << p : 0;
            }
            return bits;
        }
    }

    private final Map<Integer, Integer> buffer = new LinkedHashMap<>();
    private final Map<Integer, Mark> zone = new LinkedHashMap<>();
    private final Mark[][] bands = new Mark[3][20];
    private final int[] ends = new int[3];
    private final boolean[] lost = new boolean[60];
    private final boolean[][] bad = new boolean[3][20];
    private final boolean[][] mapped = new boolean[3][20];
    private final List<Integer> samples = new ArrayList<>();
    private final List<int[]> requests = new ArrayList<>();
    private final Map<Character, Integer> counts = new HashMap<>();
    private boolean shaking;
    private boolean shock;
    private int heat = 20;
    private int time;
    private int arm;
    private int waited;
    private int served;

    Model() {
        for (char what : "wrpmlc".toCharArray()) {
            counts.put(what, 0);
        }
    }

    // ---- words ----

    private static int product(int a, int b) {
        int[] powers = new int[7];
        for (int i = 0; i < 4; i++) {
            for (int j = 0; j < 4; j++) {
                powers[i + j] ^= (a >> i) & (b >> j) & 1;
            }
        }
        // x^6 is x^3 + x^2, x^5 is x^2 + x, x^4 is x + 1.
        int[] rests = {1, 2, 4, 8, 3, 6, 12};
        int rest = 0;
        for (int i = 0; i < 7; i++) {
            rest ^= powers[i] == 1 ? rests[i] : 0;
        }
        return rest;
    }

    private static boolean isAsTold(long word) {
        for (int j = 0; j < 4; j++) {
            int sum = 0;
            for (int p = 0; p < 8; p++) {
                int factor = 1;
                for (int i = 0; i < p * j; i++) {
                    factor = product(factor, 2);
                }
                sum ^= product((int) (word >> (4 * p) & 15), factor);
            }
            if (sum != 0) {
                return false;
            }
        }
        return true;
    }

    private static long[] allWords() {
        long[] code = new long[65536];
        for (int bit = 0; bit < 16; bit++) {
            int value = 1 << bit;
            long upper = 0;
            while (!isAsTold(value + (upper << 16))) {
                upper++;
            }
            code[value] = value + (upper << 16);
        }
        for (int value = 1; value < 65536; value++) {
            int one = Integer.lowestOneBit(value);
            code[value] = code[one] ^ code[value ^ one];
        }
        return code;
    }

    /** The word as it is told, or -1. */
    private static long mendedWord(long word, int weak) {
        if (Integer.bitCount(weak) > 4) {
            return -1;
        }
        return MENDED.computeIfAbsent(word << 8 | weak, key -> search(word, weak));
    }

    private static long search(long word, int weak) {
        long best = -1;
        int fewest = 9;
        for (long other : CODE) {
            int off = 0;
            for (int p = 0; p < 8 && off < fewest; p++) {
                boolean isWeak = (weak >> p & 1) == 1;
                if (!isWeak && ((word ^ other) >> (4 * p) & 15) != 0) {
                    off++;
                }
            }
            if (off < fewest) {
                fewest = off;
                best = other;
            }
        }
        return 2 * fewest + Integer.bitCount(weak) <= 4 ? best : -1;
    }

    private static int offPlaces(long one, long other) {
        int off = 0;
        for (int p = 0; p < 8; p++) {
            off += ((one ^ other) >> (4 * p) & 15) != 0 ? 1 : 0;
        }
        return off;
    }

    long word(int value) {
        range(value, 0, 65535);
        return CODE[value];
    }

    int mend(long word, int weak) {
        range(word, 0, 4294967295L);
        range(weak, 0, 255);
        long mended = mendedWord(word, weak);
        if (mended < 0) {
            throw new NoSuchElementException();
        }
        return (int) (mended % 65536);
    }

    int mended(long word, int weak) {
        mend(word, weak);
        return offPlaces(word, mendedWord(word, weak));
    }

    // ---- cells ----

    int encode(int data, int before) {
        range(data, 0, 255);
        range(before, 0, 1);
        String bits = before + Integer.toBinaryString(256 + data).substring(1);
        StringBuilder cells = new StringBuilder();
        for (int i = 1; i <= 8; i++) {
            cells.append(bits.startsWith("00", i - 1) ? '1' : '0').append(bits.charAt(i));
        }
        return Integer.parseInt(cells.toString(), 2);
    }

    int decode(int cells, int before) {
        range(cells, 0, 65535);
        range(before, 0, 1);
        for (int data = 0; data < 256; data++) {
            if (encode(data, before) == cells) {
                return data;
            }
        }
        throw new NoSuchElementException();
    }

    int sample(int sample) {
        range(sample, -40, 40);
        if (samples.size() == 12) {
            throw new IllegalStateException();
        }
        samples.add(sample);
        return samples.size();
    }

    int guess() {
        int n = samples.size();
        int best = 0;
        int least = Integer.MAX_VALUE;
        for (int number = 0; number < 1 << n; number++) {
            int squares = 0;
            for (int i = 0; i < n; i++) {
                int cell = number >> (n - 1 - i) & 1;
                int older = i < 2 ? 0 : number >> (n + 1 - i) & 1;
                int off = samples.get(i) - (10 * cell - 10 * older);
                squares += off * off;
            }
            if (squares < least) {
                least = squares;
                best = number;
            }
        }
        samples.clear();
        return best;
    }

    // ---- writing and reading ----

    int write(int sector, int value) {
        sector(sector);
        range(value, 0, 65535);
        calm();
        if (!buffer.containsKey(sector) && buffer.size() == 6) {
            sendFirst();
        }
        buffer.put(sector, value);
        more('w', 1);
        return buffer.size();
    }

    private void sendFirst() {
        Iterator<Map.Entry<Integer, Integer>> entries = buffer.entrySet().iterator();
        Map.Entry<Integer, Integer> first = entries.next();
        int sector = first.getKey();
        int value = first.getValue();
        entries.remove();
        if (ends[sector / 20] != sector % 20 && !zone.containsKey(sector) && zone.size() == 10) {
            renew(fullest());
        }
        lost[sector] = false;
        if (ends[sector / 20] == sector % 20) {
            zone.remove(sector);
            ends[sector / 20]++;
            place(sector, CODE[value], true);
        } else {
            zone.put(sector, new Mark(CODE[value]));
            more('p', 1);
        }
    }

    private int fullest() {
        int[] there = new int[3];
        for (int sector : zone.keySet()) {
            there[sector / 20]++;
        }
        if (there[0] >= there[1] && there[0] >= there[2]) {
            return 0;
        }
        return there[1] >= there[2] ? 1 : 2;
    }

    private void place(int sector, long word, boolean harms) {
        int band = sector / 20;
        int index = sector % 20;
        Mark mark = new Mark(word);
        if (bad[band][index] && !mapped[band][index]) {
            mark.nibbles[index % 8] ^= 15;
            mark.nibbles[(index + 3) % 8] ^= 15;
        }
        bands[band][index] = mark;
        if (harms && shaking && index >= 5 && bands[band][index - 5] != null) {
            bands[band][index - 5].nibbles[(index - 5) % 8] ^= 1;
        }
        more('p', 1);
    }

    private void renew(int band) {
        Mark[] old = bands[band].clone();
        for (int index = 0; index < 20; index++) {
            int sector = 20 * band + index;
            if (zone.containsKey(sector)) {
                old[index] = zone.remove(sector);
                ends[band] = Math.max(ends[band], index + 1);
            }
            bands[band][index] = null;
        }
        for (int index = 0; index < 20; index++) {
            if (old[index] != null) {
                long word = old[index].number();
                long mended = mendedWord(word, old[index].weakBits());
                if (mended < 0) {
                    lost[20 * band + index] = true;
                    more('l', 1);
                } else {
                    more('m', offPlaces(word, mended));
                    place(20 * band + index, mended, true);
                }
            }
        }
        more('c', 1);
    }

    int barrier() {
        calm();
        int went = 0;
        while (!buffer.isEmpty()) {
            sendFirst();
            went++;
        }
        return went;
    }

    int cut() {
        int had = buffer.size();
        buffer.clear();
        return had;
    }

    private Mark markOf(int sector) {
        return zone.containsKey(sector) ? zone.get(sector) : bands[sector / 20][sector % 20];
    }

    int read(int sector) {
        sector(sector);
        if (where(sector) == '-') {
            throw new NoSuchElementException();
        }
        if (buffer.containsKey(sector)) {
            more('r', 1);
            return buffer.get(sector);
        }
        if (lost[sector]) {
            throw new UnsupportedOperationException();
        }
        calm();
        Mark mark = markOf(sector);
        long mended = mendedWord(mark.number(), mark.weakBits());
        if (mended < 0) {
            throw new UnsupportedOperationException();
        }
        more('m', offPlaces(mark.number(), mended));
        more('r', 1);
        return (int) (mended % 65536);
    }

    char where(int sector) {
        sector(sector);
        if (buffer.containsKey(sector)) {
            return 'b';
        }
        if (zone.containsKey(sector)) {
            return 'p';
        }
        if (bands[sector / 20][sector % 20] != null) {
            return 'o';
        }
        return lost[sector] ? 'l' : '-';
    }

    int buffered() {
        return buffer.size();
    }

    int plain() {
        return zone.size();
    }

    int end(int band) {
        index(band, 3);
        return ends[band];
    }

    int clean(int band) {
        index(band, 3);
        calm();
        renew(band);
        return ends[band];
    }

    int wipe() {
        int had = 0;
        for (int sector = 0; sector < 60; sector++) {
            had += "bpo".indexOf(where(sector)) >= 0 ? 1 : 0;
            bands[sector / 20][sector % 20] = null;
            lost[sector] = false;
            ends[sector / 20] = 0;
            zone.remove(sector);
            buffer.remove(sector);
        }
        return had;
    }

    // ---- harm and care ----

    boolean bad(int band, int index) {
        index(band, 3);
        index(index, 20);
        boolean was = bad[band][index];
        bad[band][index] = true;
        return was;
    }

    boolean isMapped(int band, int index) {
        index(band, 3);
        index(index, 20);
        return mapped[band][index];
    }

    private int all(boolean[][] places) {
        int all = 0;
        for (boolean[] row : places) {
            for (boolean is : row) {
                all += is ? 1 : 0;
            }
        }
        return all;
    }

    int spares() {
        return 5 - all(mapped);
    }

    int harm(int sector, int place, int by, boolean isWeak) {
        sector(sector);
        range(place, 0, 7);
        range(by, 0, 15);
        Mark mark = markOf(sector);
        if (mark == null) {
            throw new UnsupportedOperationException();
        }
        mark.nibbles[place] ^= by;
        mark.weak[place] = isWeak;
        return mark.nibbles[place];
    }

    int scrub() {
        calm();
        int scrubbed = 0;
        for (int sector = 0; sector < 60; sector++) {
            int band = sector / 20;
            int index = sector % 20;
            Mark mark = bands[band][index];
            if (mark == null) {
                continue;
            }
            long mended = mendedWord(mark.number(), mark.weakBits());
            if (mended < 0) {
                bands[band][index] = null;
                more('l', 1);
                lost[sector] |= !zone.containsKey(sector);
            } else if (mended != mark.number()) {
                mapped[band][index] |= bad[band][index] && spares() > 0;
                more('m', offPlaces(mended, mark.number()));
                place(sector, mended, false);
                scrubbed++;
            }
        }
        return scrubbed;
    }

    boolean shake(boolean is) {
        boolean did = shaking;
        shaking = is;
        return did;
    }

    boolean shock(boolean is) {
        boolean was = shock;
        shock = is;
        return was;
    }

    int heat(int to) {
        range(to, -20, 90);
        int before = heat;
        heat = to;
        return before;
    }

    float height() {
        float above = heat - 20.0f;
        return 10.0f - above / 5.0f;
    }

    int heightBits() {
        return Float.floatToIntBits(height());
    }

    // ---- seeks ----

    int request(int sector) {
        sector(sector);
        if (requests.size() == 8) {
            throw new IllegalStateException();
        }
        requests.add(new int[] {sector, time});
        return requests.size();
    }

    int takes(int sector) {
        sector(sector);
        int track = 4 * (sector / 20) + sector % 20 / 5;
        int ticks = 0;
        if (track > arm) {
            ticks = 4 + 2 * (track - arm);
        } else if (track < arm) {
            ticks = 4 + 2 * (arm - track);
        }
        while ((time + ticks) % 30 != (6 * (sector % 5) + 4 * track) % 30) {
            ticks++;
        }
        return ticks + 6;
    }

    int serve(char order) {
        if ("fn".indexOf(order) < 0) {
            throw new IllegalArgumentException();
        }
        if (requests.isEmpty()) {
            throw new NoSuchElementException();
        }
        int[] next = requests.get(0);
        if (order == 'n' && time - next[1] < 150) {
            for (int[] other : requests) {
                if (takes(other[0]) < takes(next[0])) {
                    next = other;
                }
            }
        }
        requests.remove(next);
        time += takes(next[0]);
        arm = 4 * (next[0] / 20) + next[0] % 20 / 5;
        waited += time - next[1];
        served++;
        return next[0];
    }

    int idle(int ticks) {
        range(ticks, 1, 999);
        if (time + ticks > 99999) {
            throw new IllegalStateException();
        }
        time += ticks;
        return time;
    }

    int time() {
        return time;
    }

    int arm() {
        return arm;
    }

    int waited() {
        return waited;
    }

    // ---- counters and sums ----

    int count(char what) {
        if (!counts.containsKey(what)) {
            throw new IllegalArgumentException();
        }
        return counts.get(what);
    }

    long checksum() {
        long sum = 7;
        for (int sector = 0; sector < 60; sector++) {
            sum = sum * 31 + where(sector);
        }
        for (int band = 0; band < 3; band++) {
            sum = sum * 31 + ends[band];
            for (Mark mark : bands[band]) {
                sum *= 31;
                for (int p = 0; p < 8 && mark != null; p++) {
                    sum += mark.nibbles[p] * (p + 1);
                }
            }
        }
        return sum * 31 + time;
    }

    float mappedShare() {
        if (all(bad) == 0) {
            throw new NoSuchElementException();
        }
        return (float) all(mapped) / (float) all(bad);
    }

    double meanWait() {
        if (served == 0) {
            throw new NoSuchElementException();
        }
        return (double) waited / (double) served;
    }

    boolean isSound() {
        return true;
    }

    // ---- exceptions ----

    private void more(char what, int by) {
        counts.merge(what, by, Integer::sum);
    }

    private static void range(long number, long least, long most) {
        if (number < least || number > most) {
            throw new IllegalArgumentException();
        }
    }

    private static void index(int index, int size) {
        if (index < 0 || index >= size) {
            throw new IndexOutOfBoundsException();
        }
    }

    private static void sector(int sector) {
        index(sector, 60);
    }

    private void calm() {
        if (shock || height() < 2) {
            throw new IllegalStateException();
        }
    }
}
