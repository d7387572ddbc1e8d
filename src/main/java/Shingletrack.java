import java.util.NoSuchElementException;

/**
 * A disk from its marks to what it promises: words of nibbles that are mended, cells, a channel
 * that guesses, shingled bands with a plain zone and a buffer before them, and an arm that seeks.
 */
public final class Shingletrack {
    private static final int BANDS = 3;
    private static final int BAND_SIZE = 20;
    private static final int SECTORS = BANDS * BAND_SIZE;
    private static final int ZONE_SIZE = 10;
    private static final int BUFFER_SIZE = 6;
    private static final int SPARES = 5;
    private static final int PLACES = 8;
    private static final int SAMPLES = 12;
    private static final int REQUESTS = 8;
    private static final int LATEST = 99999;
    private static final int FIRST_HEAT = 20;
    private static final long LARGEST_WORD = 4294967295L;
    private static final long NONE = -1L;

    private final Channel channel = new Channel();
    private final Buffer buffer = new Buffer();
    private final Platter platter = new Platter();
    private final Seeks seeks = new Seeks();
    private boolean shocked = false;
    private int warmth = FIRST_HEAT;
    private int sectorsWritten = 0;
    private int readsAnswered = 0;

    /** Creates a disk on which nothing was written. */
    public Shingletrack() {
    }

    // ---- words, cells and the channel ----

    /** Returns the word of a value. */
    public long word(int value) throws IllegalArgumentException {
        checkRange(value, 0, 65535);
        return Words.of(value);
    }

    /** Returns the value of a word, mended. */
    public int mend(long word, int weak) throws IllegalArgumentException, NoSuchElementException {
        return Words.valueOf(repairedOrThrow(word, weak));
    }

    /** Returns how many places of a word are mended. */
    public int mended(long word, int weak) throws IllegalArgumentException, NoSuchElementException {
        return Words.differences(word, repairedOrThrow(word, weak));
    }

    /** Returns the 16 cells of a byte. */
    public int encode(int data, int before) throws IllegalArgumentException {
        checkRange(data, 0, 255);
        checkRange(before, 0, 1);
        return Cells.ofByte(data, before);
    }

    /** Returns the byte of 16 cells. */
    public int decode(int cells, int before) throws IllegalArgumentException, NoSuchElementException {
        checkRange(cells, 0, 65535);
        checkRange(before, 0, 1);
        int data = Cells.dataOf(cells);
        if (Cells.ofByte(data, before) != cells) {
            throw new NoSuchElementException();
        }
        return data;
    }

    /** Puts a sample behind those that are there, and returns how many there are. */
    public int sample(int sample) throws IllegalArgumentException, IllegalStateException {
        checkRange(sample, -40, 40);
        if (channel.size() >= SAMPLES) {
            throw new IllegalStateException();
        }
        return channel.add(sample);
    }

    /** Guesses the cells of the samples, which are gone then. */
    public int guess() {
        return channel.bestCells();
    }

    // ---- writing and reading ----

    /** Writes a sector, and returns how many are in the buffer. */
    public int write(int sector, int value)
            throws IndexOutOfBoundsException, IllegalArgumentException, IllegalStateException {
        checkSector(sector);
        checkRange(value, 0, 65535);
        checkCalm();
        if (!buffer.has(sector) && buffer.isFull()) {
            platter.take(buffer.firstSector(), buffer.firstValue());
            buffer.removeFirst();
        }
        buffer.put(sector, value);
        sectorsWritten++;
        return buffer.size();
    }

    /** Sends the buffer to the platter, and returns how many sectors went. */
    public int barrier() throws IllegalStateException {
        checkCalm();
        int went = buffer.size();
        for (int i = 0; i < went; i++) {
            platter.take(buffer.firstSector(), buffer.firstValue());
            buffer.removeFirst();
        }
        return went;
    }

    /** Cuts the power, and returns how many sectors the buffer had. */
    public int cut() {
        int had = buffer.size();
        buffer.empty();
        return had;
    }

    /** Reads a sector. */
    public int read(int sector)
            throws IndexOutOfBoundsException, NoSuchElementException, IllegalStateException,
            UnsupportedOperationException {
        checkSector(sector);
        char letter = letterOf(sector);
        if (letter == '-') {
            throw new NoSuchElementException();
        }
        if (letter != 'b' && letter != 'l') {
            checkCalm();
        }
        int value = letter == 'b' ? buffer.valueOf(sector) : valueOnPlatter(sector);
        readsAnswered++;
        return value;
    }

    /** Returns where a sector is. */
    public char where(int sector) throws IndexOutOfBoundsException {
        checkSector(sector);
        return letterOf(sector);
    }

    /** Returns how many sectors are in the buffer. */
    public int buffered() {
        return buffer.size();
    }

    /** Returns how many sectors are in the plain zone. */
    public int plain() {
        return platter.zone.size();
    }

    /** Returns the end of a band. */
    public int end(int band) throws IndexOutOfBoundsException {
        checkIndex(band, BANDS);
        return platter.endOf(band);
    }

    /** Cleans a band, and returns its end then. */
    public int clean(int band) throws IndexOutOfBoundsException, IllegalStateException {
        checkIndex(band, BANDS);
        checkCalm();
        platter.renewBand(band);
        return platter.endOf(band);
    }

    /** Wipes the disk, and returns how many sectors had a value, those told lost aside. */
    public int wipe() {
        int had = 0;
        for (int sector = 0; sector < SECTORS; sector++) {
            char letter = letterOf(sector);
            if (letter != '-' && letter != 'l') {
                had++;
            }
        }
        buffer.empty();
        platter.forgetAll();
        return had;
    }

    // ---- harm and care ----

    /** Makes a place bad, and returns whether it was. */
    public boolean bad(int band, int index) throws IndexOutOfBoundsException {
        checkIndex(band, BANDS);
        checkIndex(index, BAND_SIZE);
        return platter.badPlaces.setFlag(band * BAND_SIZE + index);
    }

    /** Tells whether a place is mapped to a spare. */
    public boolean isMapped(int band, int index) throws IndexOutOfBoundsException {
        checkIndex(band, BANDS);
        checkIndex(index, BAND_SIZE);
        return platter.mappedPlaces.isSet(band * BAND_SIZE + index);
    }

    /** Returns how many spares are left. */
    public int spares() {
        return platter.sparesLeft();
    }

    /** Harms the word of a sector in the plain zone, or else in its band; returns the nibble then. */
    public int harm(int sector, int place, int by, boolean isWeak)
            throws IndexOutOfBoundsException, IllegalArgumentException, UnsupportedOperationException {
        checkSector(sector);
        checkRange(place, 0, PLACES - 1);
        checkRange(by, 0, 15);
        Store store = platter.newestStore(sector);
        if (!store.has(sector)) {
            throw new UnsupportedOperationException();
        }
        store.turn(sector, place, by);
        store.setWeak(sector, place, isWeak);
        platter.harmedSectors.setFlag(sector);
        return Words.nibble(store.wordOf(sector), place);
    }

    /** Scrubs the disk, and returns how many words were mended. */
    public int scrub() throws IllegalStateException {
        checkCalm();
        return platter.scrubBands();
    }

    /** Lets the disk shake, or not, and returns whether it did. */
    public boolean shake(boolean is) {
        boolean did = platter.shakes;
        platter.shakes = is;
        return did;
    }

    /** Tells whether there is a shock, and returns whether there was. */
    public boolean shock(boolean is) {
        boolean was = shocked;
        shocked = is;
        return was;
    }

    /** Sets the heat, and returns the one before. */
    public int heat(int heat) throws IllegalArgumentException {
        checkRange(heat, -20, 90);
        int before = warmth;
        warmth = heat;
        return before;
    }

    /** Returns the height of the head. */
    public float height() {
        return headHeight();
    }

    /** Returns the height of the head as bits. */
    public int heightBits() {
        return bitsOf(headHeight());
    }

    // ---- seeks ----

    /** Puts a request for the place of a sector in its band, and returns how many wait. */
    public int request(int sector) throws IndexOutOfBoundsException, IllegalStateException {
        checkSector(sector);
        if (seeks.size() >= REQUESTS) {
            throw new IllegalStateException();
        }
        return seeks.add(sector);
    }

    /** Serves a request, and returns its sector. */
    public int serve(char order) throws IllegalArgumentException, NoSuchElementException {
        if (order != 'f' && order != 'n') {
            throw new IllegalArgumentException();
        }
        if (seeks.size() == 0) {
            throw new NoSuchElementException();
        }
        return seeks.serveNext(order == 'n');
    }

    /** Lets time go by, and returns the time then. */
    public int idle(int ticks) throws IllegalArgumentException, IllegalStateException {
        checkRange(ticks, 1, 999);
        if (seeks.now + ticks > LATEST) {
            throw new IllegalStateException();
        }
        seeks.now += ticks;
        return seeks.now;
    }

    /** Returns how many ticks it would take to serve a sector now. */
    public int takes(int sector) throws IndexOutOfBoundsException {
        checkSector(sector);
        return seeks.ticksFor(sector);
    }

    /** Returns the time. */
    public int time() {
        return seeks.now;
    }

    /** Returns on which track the arm is. */
    public int arm() {
        return seeks.armTrack;
    }

    /** Returns how many ticks served requests waited in all. */
    public int waited() {
        return seeks.ticksWaited;
    }

    // ---- counters and sums ----

    /** Returns a counter. */
    public int count(char what) throws IllegalArgumentException {
        switch (what) {
            case 'w':
                return sectorsWritten;
            case 'r':
                return readsAnswered;
            case 'p':
                return platter.wordsWritten;
            case 'm':
                return platter.placesMended;
            case 'l':
                return platter.wordsLost;
            case 'c':
                return platter.cleanings;
            default:
                throw new IllegalArgumentException();
        }
    }

    /** Returns a sum over the disk. */
    public long checksum() {
        long sum = 7;
        for (int sector = 0; sector < SECTORS; sector++) {
            sum = 31 * sum + letterOf(sector);
        }
        for (int band = 0; band < BANDS; band++) {
            sum = 31 * sum + platter.endOf(band);
            for (int index = 0; index < BAND_SIZE; index++) {
                sum = 31 * sum + platter.bandStore.weightOf(band * BAND_SIZE + index);
            }
        }
        return 31 * sum + seeks.now;
    }

    /** Returns the share of bad places that are mapped. */
    public float mappedShare() throws NoSuchElementException {
        int all = platter.badPlaces.countOfSet();
        if (all == 0) {
            throw new NoSuchElementException();
        }
        return (float) platter.mappedPlaces.countOfSet() / (float) all;
    }

    /** Returns the mean wait of served requests. */
    public double meanWait() throws NoSuchElementException {
        int served = seeks.requestsServed;
        if (served == 0) {
            throw new NoSuchElementException();
        }
        return (double) seeks.ticksWaited / (double) served;
    }

    /** Tells whether the disk holds what was sent to it, and nothing where nothing may be. */
    public boolean isSound() {
        return platter.keepsWhatWasSent() && platter.endsHold() && buffer.holdsEachOnce()
                && platter.zone.size() <= ZONE_SIZE;
    }

    // ---- what several calls share ----

    private static void checkRange(long number, long least, long most) {
        if (number < least || number > most) {
            throw new IllegalArgumentException();
        }
    }

    private static void checkIndex(int index, int size) {
        if (index < 0 || index >= size) {
            throw new IndexOutOfBoundsException();
        }
    }

    private static void checkSector(int sector) {
        checkIndex(sector, SECTORS);
    }

    private void checkCalm() {
        if (shocked || headHeight() < 2.0f) {
            throw new IllegalStateException();
        }
    }

    private static long repairedOrThrow(long word, int weak) {
        checkRange(word, 0, LARGEST_WORD);
        checkRange(weak, 0, 255);
        long repaired = Words.repaired(word, weak);
        if (repaired == NONE) {
            throw new NoSuchElementException();
        }
        return repaired;
    }

    private char letterOf(int sector) {
        return buffer.has(sector) ? 'b' : platter.letterOf(sector);
    }

    private int valueOnPlatter(int sector) {
        Store store = platter.newestStore(sector);
        long word = store.wordOf(sector);
        long repaired = store.has(sector) ? Words.repaired(word, store.weakOf(sector)) : NONE;
        if (repaired == NONE) {
            throw new UnsupportedOperationException();
        }
        platter.placesMended += Words.differences(word, repaired);
        return Words.valueOf(repaired);
    }

    private float headHeight() {
        return 10.0f - (warmth - 20.0f) / 5.0f;
    }

    // The language keeps Float.floatToIntBits out, so the bits are put together by hand; every
    // height is 0 or far from the smallest floats, so that the loops bring it to 1 up to 2.
    private static int bitsOf(float number) {
        if (number == 0.0f) {
            return 0;
        }
        float rest = number < 0.0f ? -number : number;
        int exponent = 127;
        for (int i = 0; i < 127 && rest >= 2.0f; i++) {
            rest = rest / 2.0f;
            exponent++;
        }
        for (int i = 0; i < 126 && rest < 1.0f; i++) {
            rest = rest * 2.0f;
            exponent--;
        }
        int fraction = (int) ((rest - 1.0f) * 8388608.0f);
        int sign = number < 0.0f ? 1 : 0;
        return sign << 31 | exponent << 23 | fraction;
    }

    /** Numbers in a row; every index of the program is looked at here. */
    private static final class Row {
        private final long[] numbers;

        Row(int length) {
            numbers = new long[length < 0 ? 0 : length];
        }

        long at(int index) {
            return index >= 0 && index < numbers.length ? numbers[index] : 0;
        }

        int intAt(int index) {
            return (int) at(index);
        }

        void put(int index, long number) {
            if (index >= 0 && index < numbers.length) {
                numbers[index] = number;
            }
        }

        void fill(long number) {
            for (int i = 0; i < numbers.length; i++) {
                numbers[i] = number;
            }
        }

        void closeGap(int index) {
            for (int i = index; i + 1 < numbers.length; i++) {
                put(i, at(i + 1));
            }
        }

        boolean isSet(int index) {
            return at(index) != 0;
        }

        /** Sets a flag, and tells whether it was set. */
        boolean setFlag(int index) {
            boolean was = isSet(index);
            put(index, 1);
            return was;
        }

        int countOfSet() {
            int count = 0;
            for (int i = 0; i < numbers.length; i++) {
                if (numbers[i] != 0) {
                    count++;
                }
            }
            return count;
        }
    }

    /**
     * Words of eight nibbles. The four sums of a word stand in one int, a nibble each; a word is
     * as told if they are all 0.
     */
    private static final class Words {
        private static final int CHECK_PLACES = 0xF0;
        /** Of each place 2 to the power of it, a nibble each. */
        private static final long POWERS = 0xBC638421L;
        private static final int SUMS = 4;

        private Words() {
        }

        static int nibble(long word, int place) {
            return (int) (word >>> 4 * place) & 15;
        }

        static long turned(long word, int place, int by) {
            return word ^ (long) by << 4 * place;
        }

        static long of(int value) {
            return filled(value, sumsOf(value), CHECK_PLACES);
        }

        static int valueOf(long word) {
            return (int) (word & 65535);
        }

        static int differences(long one, long other) {
            int count = 0;
            for (int place = 0; place < PLACES; place++) {
                if (nibble(one, place) != nibble(other, place)) {
                    count++;
                }
            }
            return count;
        }

        /**
         * The mended word, or NONE if it is lost. Two words that are as told differ in five places
         * or more, so the first one found within the limit is the only one.
         */
        static long repaired(long word, int weak) {
            int sums = sumsOf(word);
            int weakPlaces = Integer.bitCount(weak);
            for (int wrong = 0; wrong < 1 << PLACES; wrong++) {
                boolean isNearEnough = 2 * Integer.bitCount(wrong) + weakPlaces <= SUMS;
                if (isNearEnough && (wrong & weak) == 0 && sumsWithout(sums, wrong | weak) == 0) {
                    return filled(word, sums, wrong | weak);
                }
            }
            return NONE;
        }

        private static int sumsOf(long word) {
            int sums = 0;
            for (int j = 0; j < SUMS; j++) {
                int sum = 0;
                for (int place = PLACES - 1; place >= 0; place--) {
                    sum = times(sum, 1 << j) ^ nibble(word, place);
                }
                sums |= sum << 4 * j;
            }
            return sums;
        }

        /** The word with the nibbles of at most four places put so that its sums are 0. */
        private static long filled(long word, int sums, int places) {
            long filled = word;
            for (int place = 0; place < PLACES; place++) {
                if ((places >> place & 1) == 1) {
                    int others = places & ~(1 << place);
                    int all = sumsWithout(sums, others) & 15;
                    int each = sumsWithout(sumsOf(1L << 4 * place), others) & 15;
                    filled = turned(filled, place, quotient(all, each));
                }
            }
            return filled;
        }

        // The sum by j + 1, less that by j times the power of a place, no longer has that place in
        // it, and all others times what their powers differ from that of the place. So each place
        // that goes makes the sums one fewer.
        private static int sumsWithout(int sums, int places) {
            int left = sums;
            int length = SUMS;
            for (int place = 0; place < PLACES; place++) {
                if ((places >> place & 1) == 1) {
                    length--;
                    int power = nibble(POWERS, place);
                    int fewer = 0;
                    for (int j = 0; j < length; j++) {
                        fewer |= (nibble(left, j + 1) ^ times(nibble(left, j), power)) << 4 * j;
                    }
                    left = fewer;
                }
            }
            return left;
        }

        private static int times(int a, int b) {
            int product = 0;
            for (int bit = 0; bit < 4; bit++) {
                if ((b >> bit & 1) == 1) {
                    product ^= a << bit;
                }
            }
            for (int bit = 6; bit >= 4; bit--) {
                if ((product >> bit & 1) == 1) {
                    product ^= 0x13 << bit - 4;
                }
            }
            return product;
        }

        private static int quotient(int product, int factor) {
            for (int other = 0; other < 16; other++) {
                if (times(other, factor) == product) {
                    return other;
                }
            }
            return 0;
        }
    }

    /** Bytes as cells: a clock cell ahead of each bit. */
    private static final class Cells {
        private Cells() {
        }

        static int ofByte(int data, int before) {
            int cells = 0;
            int last = before;
            for (int i = 7; i >= 0; i--) {
                int bit = data >> i & 1;
                int clock = last == 0 && bit == 0 ? 1 : 0;
                cells = cells << 2 | clock << 1 | bit;
                last = bit;
            }
            return cells;
        }

        static int dataOf(int cells) {
            int data = 0;
            for (int i = 7; i >= 0; i--) {
                data = data << 1 | cells >> 2 * i & 1;
            }
            return data;
        }
    }

    /** The samples of cells, and the guess from them. */
    private static final class Channel {
        private static final int STATES = 4;
        private static final int STEP = 10;
        /** Above all that the squares of twelve samples can sum up to. */
        private static final long FAR = 1000000;

        private final Row samples = new Row(SAMPLES);
        private int samplesThere = 0;
        // By the last two cells: the least sum of squares that leads there, and its cells.
        private final Row squares = new Row(STATES);
        private final Row numbers = new Row(STATES);
        private final Row nextSquares = new Row(STATES);
        private final Row nextNumbers = new Row(STATES);

        int size() {
            return samplesThere;
        }

        int add(int sample) {
            samples.put(samplesThere, sample);
            samplesThere++;
            return samplesThere;
        }

        int bestCells() {
            squares.fill(FAR);
            numbers.fill(0);
            squares.put(0, 0);
            for (int i = 0; i < samplesThere; i++) {
                goOn(samples.at(i));
            }
            samplesThere = 0;
            int best = 0;
            for (int state = 1; state < STATES; state++) {
                if (isBetter(squares.at(state), numbers.at(state), squares.at(best), numbers.at(best))) {
                    best = state;
                }
            }
            return numbers.intAt(best);
        }

        // What follows depends on the last two cells alone, so of all cells that end in the same
        // two only the best can be in the guess.
        private void goOn(long sample) {
            nextSquares.fill(FAR);
            nextNumbers.fill(0);
            for (int state = 0; state < STATES; state++) {
                for (int cell = 0; cell < 2; cell++) {
                    long off = sample - STEP * (cell - (state >> 1));
                    long square = squares.at(state) + off * off;
                    long number = numbers.at(state) << 1 | cell;
                    int next = (state & 1) << 1 | cell;
                    if (isBetter(square, number, nextSquares.at(next), nextNumbers.at(next))) {
                        nextSquares.put(next, square);
                        nextNumbers.put(next, number);
                    }
                }
            }
            for (int state = 0; state < STATES; state++) {
                squares.put(state, nextSquares.at(state));
                numbers.put(state, nextNumbers.at(state));
            }
        }

        private static boolean isBetter(long square, long number, long otherSquare, long otherNumber) {
            return square < otherSquare || square == otherSquare && number < otherNumber;
        }
    }

    /** Sectors that wait for the platter, the first one first. */
    private static final class Buffer {
        private final Row sectors = new Row(BUFFER_SIZE);
        private final Row values = new Row(BUFFER_SIZE);
        private int sectorsThere = 0;

        int size() {
            return sectorsThere;
        }

        boolean isFull() {
            return sectorsThere >= BUFFER_SIZE;
        }

        boolean has(int sector) {
            return indexOf(sector) < sectorsThere;
        }

        int valueOf(int sector) {
            return values.intAt(indexOf(sector));
        }

        int firstSector() {
            return sectors.intAt(0);
        }

        int firstValue() {
            return values.intAt(0);
        }

        void put(int sector, int value) {
            int index = indexOf(sector);
            sectors.put(index, sector);
            values.put(index, value);
            if (index == sectorsThere && index < BUFFER_SIZE) {
                sectorsThere++;
            }
        }

        void removeFirst() {
            if (sectorsThere > 0) {
                sectors.closeGap(0);
                values.closeGap(0);
                sectorsThere--;
            }
        }

        void empty() {
            sectorsThere = 0;
        }

        boolean holdsEachOnce() {
            for (int i = 0; i < sectorsThere; i++) {
                if (indexOf(sectors.intAt(i)) != i) {
                    return false;
                }
            }
            return true;
        }

        /** The index of a sector, or behind the last one if it is not there. */
        private int indexOf(int sector) {
            for (int i = 0; i < sectorsThere; i++) {
                if (sectors.at(i) == sector) {
                    return i;
                }
            }
            return sectorsThere;
        }
    }

    /** A word, or none, for each sector, with the places of it that are weak. */
    private static final class Store {
        private final Row words = new Row(SECTORS);
        private final Row weaks = new Row(SECTORS);

        Store() {
            words.fill(NONE);
        }

        boolean has(int sector) {
            return words.at(sector) != NONE;
        }

        long wordOf(int sector) {
            return words.at(sector);
        }

        int weakOf(int sector) {
            return weaks.intAt(sector);
        }

        void put(int sector, long word) {
            words.put(sector, word);
            weaks.put(sector, 0);
        }

        void remove(int sector) {
            put(sector, NONE);
        }

        void removeAll() {
            words.fill(NONE);
            weaks.fill(0);
        }

        void turn(int sector, int place, int by) {
            if (has(sector)) {
                words.put(sector, Words.turned(words.at(sector), place, by));
            }
        }

        void setWeak(int sector, int place, boolean isWeak) {
            int others = weaks.intAt(sector) & ~(1 << place);
            weaks.put(sector, isWeak ? others | 1 << place : others);
        }

        int size() {
            int count = 0;
            for (int sector = 0; sector < SECTORS; sector++) {
                if (has(sector)) {
                    count++;
                }
            }
            return count;
        }

        /** Its nibbles, each times 1 more than its place, summed up, 0 without a word. */
        int weightOf(int sector) {
            int weight = 0;
            for (int place = 0; place < PLACES && has(sector); place++) {
                weight += Words.nibble(words.at(sector), place) * (place + 1);
            }
            return weight;
        }
    }

    /** Bands, the plain zone before them, and what happened to their words. */
    private static final class Platter {
        /** Which place shaking harms, so many ahead of the one that is written. */
        private static final int NEIGHBOUR = 5;

        private final Store bandStore = new Store();
        private final Store zone = new Store();
        private final Row ends = new Row(BANDS);
        private final Row badPlaces = new Row(SECTORS);
        private final Row mappedPlaces = new Row(SECTORS);
        private final Row lostSectors = new Row(SECTORS);
        // What was sent last, and whether a word of it was harmed since: only for isSound.
        private final Row lastSent = new Row(SECTORS);
        private final Row harmedSectors = new Row(SECTORS);
        private boolean shakes = false;
        private int wordsWritten = 0;
        private int placesMended = 0;
        private int wordsLost = 0;
        private int cleanings = 0;

        Platter() {
            lastSent.fill(NONE);
        }

        int endOf(int band) {
            return ends.intAt(band);
        }

        int sparesLeft() {
            return SPARES - mappedPlaces.countOfSet();
        }

        Store newestStore(int sector) {
            return zone.has(sector) ? zone : bandStore;
        }

        char letterOf(int sector) {
            if (zone.has(sector)) {
                return 'p';
            }
            if (bandStore.has(sector)) {
                return 'o';
            }
            return lostSectors.isSet(sector) ? 'l' : '-';
        }

        void forgetAll() {
            bandStore.removeAll();
            zone.removeAll();
            ends.fill(0);
            lostSectors.fill(0);
            lastSent.fill(NONE);
            harmedSectors.fill(0);
        }

        void take(int sector, int value) {
            if (!isAtEnd(sector) && !zone.has(sector) && zone.size() >= ZONE_SIZE) {
                renewBand(bandWithMostInZone());
            }
            long word = Words.of(value);
            if (isAtEnd(sector)) {
                zone.remove(sector);
                putInBand(sector, word);
                harmNeighbour(sector);
                ends.put(sector / BAND_SIZE, sector % BAND_SIZE + 1);
            } else {
                zone.put(sector, word);
                wordsWritten++;
            }
            lostSectors.put(sector, 0);
            lastSent.put(sector, value);
            harmedSectors.put(sector, 0);
        }

        void renewBand(int band) {
            int newEnd = endWithZone(band);
            for (int index = 0; index < newEnd; index++) {
                int sector = band * BAND_SIZE + index;
                Store store = newestStore(sector);
                if (store.has(sector)) {
                    long word = store.wordOf(sector);
                    long repaired = Words.repaired(word, store.weakOf(sector));
                    zone.remove(sector);
                    bandStore.remove(sector);
                    if (repaired == NONE) {
                        tellLost(sector);
                    } else {
                        placesMended += Words.differences(word, repaired);
                        putInBand(sector, repaired);
                        harmNeighbour(sector);
                    }
                }
            }
            ends.put(band, newEnd);
            cleanings++;
        }

        int scrubBands() {
            int mendedWords = 0;
            for (int sector = 0; sector < SECTORS; sector++) {
                if (bandStore.has(sector)) {
                    long word = bandStore.wordOf(sector);
                    long repaired = Words.repaired(word, bandStore.weakOf(sector));
                    if (repaired == NONE) {
                        bandStore.remove(sector);
                        tellLost(sector);
                    } else if (repaired != word) {
                        placesMended += Words.differences(word, repaired);
                        mapIfBad(sector);
                        putInBand(sector, repaired);
                        mendedWords++;
                    }
                }
            }
            return mendedWords;
        }

        boolean keepsWhatWasSent() {
            for (int sector = 0; sector < SECTORS; sector++) {
                boolean isDue = lastSent.at(sector) != NONE && !lostSectors.isSet(sector)
                        && !harmedSectors.isSet(sector);
                if (isDue && !tellsWhatWasSent(sector)) {
                    return false;
                }
            }
            return true;
        }

        private boolean tellsWhatWasSent(int sector) {
            Store store = newestStore(sector);
            long repaired = Words.repaired(store.wordOf(sector), store.weakOf(sector));
            return store.has(sector) && repaired != NONE
                    && Words.valueOf(repaired) == lastSent.at(sector);
        }

        boolean endsHold() {
            for (int sector = 0; sector < SECTORS; sector++) {
                if (bandStore.has(sector) && sector % BAND_SIZE >= endOf(sector / BAND_SIZE)) {
                    return false;
                }
            }
            return true;
        }

        private boolean isAtEnd(int sector) {
            return endOf(sector / BAND_SIZE) == sector % BAND_SIZE;
        }

        private int bandWithMostInZone() {
            int best = 0;
            int most = 0;
            for (int band = 0; band < BANDS; band++) {
                int there = 0;
                for (int index = 0; index < BAND_SIZE; index++) {
                    if (zone.has(band * BAND_SIZE + index)) {
                        there++;
                    }
                }
                if (there > most) {
                    best = band;
                    most = there;
                }
            }
            return best;
        }

        private int endWithZone(int band) {
            int farthest = endOf(band);
            for (int index = farthest; index < BAND_SIZE; index++) {
                if (zone.has(band * BAND_SIZE + index)) {
                    farthest = index + 1;
                }
            }
            return farthest;
        }

        private void putInBand(int sector, long word) {
            bandStore.put(sector, word);
            if (badPlaces.isSet(sector) && !mappedPlaces.isSet(sector)) {
                int index = sector % BAND_SIZE;
                bandStore.turn(sector, index % PLACES, 15);
                bandStore.turn(sector, (index + 3) % PLACES, 15);
            }
            wordsWritten++;
        }

        private void harmNeighbour(int sector) {
            int lesser = sector % BAND_SIZE - NEIGHBOUR;
            if (shakes && lesser >= 0) {
                bandStore.turn(sector - NEIGHBOUR, lesser % PLACES, 1);
            }
        }

        private void mapIfBad(int sector) {
            if (badPlaces.isSet(sector) && sparesLeft() > 0) {
                mappedPlaces.setFlag(sector);
            }
        }

        private void tellLost(int sector) {
            wordsLost++;
            if (!zone.has(sector)) {
                lostSectors.setFlag(sector);
            }
        }
    }

    /** The arm, the time, and the requests that wait, the first one first. */
    private static final class Seeks {
        private static final int TURN = 30;
        private static final int TOO_LONG = 150;

        private final Row sectors = new Row(REQUESTS);
        private final Row comings = new Row(REQUESTS);
        private int requestsThere = 0;
        private int now = 0;
        private int armTrack = 0;
        private int ticksWaited = 0;
        private int requestsServed = 0;

        int size() {
            return requestsThere;
        }

        int add(int sector) {
            sectors.put(requestsThere, sector);
            comings.put(requestsThere, now);
            requestsThere++;
            return requestsThere;
        }

        int ticksFor(int sector) {
            int track = trackOf(sector);
            int seek = track == armTrack ? 0 : 4 + 2 * Math.abs(track - armTrack);
            int angle = 6 * (sector % BAND_SIZE % 5) + 4 * track;
            return seek + Math.floorMod(angle - now - seek, TURN) + 6;
        }

        int serveNext(boolean isNearestFirst) {
            int index = isNearestFirst && !isFirstTooOld() ? nearest() : 0;
            int sector = sectors.intAt(index);
            now += ticksFor(sector);
            armTrack = trackOf(sector);
            ticksWaited += now - comings.intAt(index);
            requestsServed++;
            sectors.closeGap(index);
            comings.closeGap(index);
            requestsThere--;
            return sector;
        }

        private static int trackOf(int sector) {
            return 4 * (sector / BAND_SIZE) + sector % BAND_SIZE / 5;
        }

        // The first that came is always the oldest one.
        private boolean isFirstTooOld() {
            return now - comings.intAt(0) >= TOO_LONG;
        }

        private int nearest() {
            int best = 0;
            for (int i = 1; i < requestsThere; i++) {
                if (ticksFor(sectors.intAt(i)) < ticksFor(sectors.intAt(best))) {
                    best = i;
                }
            }
            return best;
        }
    }
}
