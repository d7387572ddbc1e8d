import java.util.Arrays;
import java.util.NoSuchElementException;

/** The boundary cases of "Words" and "Cells" in the document, and of the promises 2 to 8. */
public final class EdgesOfWordsTest {
    private static final Class<?> ARGUMENT = IllegalArgumentException.class;
    private static final Class<?> STATE = IllegalStateException.class;
    private static final String LOST = "throws." + NoSuchElementException.class.getSimpleName();
    private static final long LARGEST = 4294967295L;
    private static final Model MODEL = new Model();

    private EdgesOfWordsTest() {
    }

    public static void main(String[] args) {
        valuesFrom0To65535();
        placesFrom4To7MakeEachSum0();
        twiceTheWrongAndTheWeakUpTo4();
        weakPlacesAsBits();
        allPlacesInWhichItDiffersAreMended();
        wordsUpTo4294967295();
        bytesFrom0To255();
        theBitBeforeAcrossBytes();
        theFirstCellIsTheHighestBit();
        cellsFrom0To65535();
        samplesFromMinus40To40();
        atMost12Samples();
        zeroAheadOfAllCells();
        cellsAsTold();
        theLeastNumberOfLikeOnes();
        noSamples();
        Checks.finish("EdgesOfWordsTest");
    }

    private static void due(String what, Object due, Checks.Call call) {
        Checks.due(what, due, call);
    }

    private static void refused(String what, Shingletrack x, Class<?> due, Checks.Call call) {
        Checks.refused(what, x, due, call);
    }

    // ---- words ----

    // "A value, 0 to 65535, has four nibbles, the lowest one first, which are the places 0 to 3 of a word"
    private static void valuesFrom0To65535() {
        Shingletrack x = new Shingletrack();
        for (int value = 0; value <= 65535; value++) {
            int v = value;
            due("the lower places of " + v, (long) v, () -> x.word(v) & 65535);
        }
        for (int value : new int[] {-1, 65536, 65537, -65536, Integer.MIN_VALUE, Integer.MAX_VALUE}) {
            refused("word of " + value, x, ARGUMENT, () -> x.word(value));
        }
    }

    // "for each j from 0 to 3 the sum of each nibble times 2 to the power of its place times j is 0"
    private static void placesFrom4To7MakeEachSum0() {
        Shingletrack x = new Shingletrack();
        for (int value = 0; value <= 65535; value++) {
            long word = x.word(value);
            Checks.same("a word of eight places for " + value, "0", String.valueOf(word >> 32));
            for (int j = 0; j <= 3; j++) {
                Checks.same("sum " + j + " of " + value, "0", String.valueOf(sumOf(word, j)));
            }
        }
    }

    private static int sumOf(long word, int j) {
        int sum = 0;
        for (int place = 0; place < 8; place++) {
            int nibble = (int) (word >> 4 * place & 15);
            for (int i = 0; i < place * j; i++) {
                nibble = nibble < 8 ? 2 * nibble : 2 * nibble ^ 0b10011;
            }
            sum ^= nibble;
        }
        return sum;
    }

    // "if twice these and the weak ones together are at most 4; otherwise it is lost": with 5 of them
    // no other word can be as near, so it is always lost; from 6 on another one may be.
    private static void twiceTheWrongAndTheWeakUpTo4() {
        Shingletrack x = new Shingletrack();
        for (int value : new int[] {0, 0x5A3C, 65535}) {
            for (int weak = 0; weak < 256; weak++) {
                for (int wrong = 0; wrong < 256; wrong++) {
                    int sum = 2 * Integer.bitCount(wrong) + Integer.bitCount(weak);
                    if ((wrong & weak) == 0 && sum <= 5) {
                        mendOne(x, value, weak, wrong, sum <= 4);
                    }
                }
            }
        }
        for (int weak = 0; weak < 256; weak++) {
            int w = weak;
            if (Integer.bitCount(weak) > 4) {
                due("whole, but too many are weak: " + w, LOST, () -> x.mend(x.word(77), w));
                due("so none is mended: " + w, LOST, () -> x.mended(x.word(77), w));
            }
        }
        due("three wrong places are lost", LOST, () -> x.mend(0x111, 0));
        due("or nearer to another word", 1, () -> x.mend(x.word(1) & 0xFFF00000L | 1, 0));
        due("four weak and one wrong, nearer to another word", 52641, () -> x.mend(1, 0b11110));
    }

    private static void mendOne(Shingletrack x, int value, int weak, int wrong, boolean isMended) {
        long harmed = x.word(value);
        int number = Integer.bitCount(wrong);
        for (int place = 0; place < 8; place++) {
            boolean isWeak = (weak >> place & 1) == 1;
            int by = isWeak ? (place * 5 + weak) % 16 : (wrong >> place & 1) * (1 + (place * 7 + wrong) % 15);
            harmed ^= (long) by << 4 * place;
            number += isWeak && by != 0 ? 1 : 0;
        }
        long word = harmed;
        String what = value + " weak " + weak + " wrong " + wrong;
        due("mend " + what, isMended ? value : LOST, () -> x.mend(word, weak));
        due("mended " + what, isMended ? number : LOST, () -> x.mended(word, weak));
    }

    // "the weak places, as bits"
    private static void weakPlacesAsBits() {
        Shingletrack x = new Shingletrack();
        long word = x.word(0xC0DE);
        for (int place = 0; place < 8; place++) {
            long harmed = word ^ 15L << 4 * place ^ 1L << 4 * ((place + 3) % 8);
            int weak = 1 << place | 1 << (place + 5) % 8;
            due("bit " + place + " is place " + place, 0xC0DE, () -> x.mend(harmed, weak));
            due("bit " + place + ", two mended", 2, () -> x.mended(harmed, weak));
        }
        due("none weak", 0xC0DE, () -> x.mend(word, 0));
        due("all weak", LOST, () -> x.mend(word, 255));
        for (int weak : new int[] {-1, 256, 257, 1 << 16, Integer.MIN_VALUE, Integer.MAX_VALUE}) {
            refused("mend with weak " + weak, x, ARGUMENT, () -> x.mend(word, weak));
            refused("mended with weak " + weak, x, ARGUMENT, () -> x.mended(word, weak));
        }
    }

    // "What is mended are all places in which it differs."
    private static void allPlacesInWhichItDiffersAreMended() {
        Shingletrack x = new Shingletrack();
        long word = x.word(0x0F0F);
        due("none, as none differs", 0, () -> x.mended(word, 0));
        due("none, weak ones that are whole aside", 0, () -> x.mended(word, 0b11000011));
        due("of two weak ones the one that differs", 1, () -> x.mended(word ^ 0x30L, 3));
        due("a weak one and one that is not", 2, () -> x.mended(word ^ 0x101L, 3));
        due("four weak ones", 4, () -> x.mended(word ^ 0x1F2E0000L, 0b11110000));
        due("four weak ones, three of them whole", 1, () -> x.mended(word ^ 0x8000L, 0b1111));
    }

    // "the word, 0 to 4294967295"
    private static void wordsUpTo4294967295() {
        Shingletrack x = new Shingletrack();
        long[] words = {0, 1, 65535, 65536, 0x7FFFFFFFL, 0x80000000L, LARGEST - 1, LARGEST};
        for (long word : words) {
            for (int weak : new int[] {0, 1, 128, 15, 240, 0b10101010, 255}) {
                due("mend " + word + " " + weak, Checks.answer(() -> MODEL.mend(word, weak)),
                        () -> x.mend(word, weak));
                due("mended " + word + " " + weak, Checks.answer(() -> MODEL.mended(word, weak)),
                        () -> x.mended(word, weak));
            }
        }
        due("the largest one", 46367, () -> x.mend(LARGEST, 15));
        for (long word : new long[] {-1, LARGEST + 1, LARGEST + 2, -LARGEST, Long.MIN_VALUE, Long.MAX_VALUE}) {
            refused("mend " + word, x, ARGUMENT, () -> x.mend(word, 0));
            refused("mended " + word, x, ARGUMENT, () -> x.mended(word, 0));
            refused("mend " + word + ", all weak", x, ARGUMENT, () -> x.mend(word, 255));
            refused("mended " + word + ", all weak", x, ARGUMENT, () -> x.mended(word, 255));
        }
        refused("mend a lost one, weak 256", x, ARGUMENT, () -> x.mend(0x111, 256));
        refused("mended a lost one, weak -1", x, ARGUMENT, () -> x.mended(0x111, -1));
    }

    // ---- cells ----

    // "the byte", "the bit before, 0 or 1"
    private static void bytesFrom0To255() {
        Shingletrack x = new Shingletrack();
        for (int data = 0; data <= 255; data++) {
            int d = data;
            due("cells of " + d + " behind 0", MODEL.encode(d, 0), () -> x.encode(d, 0));
            due("cells of " + d + " behind 1", MODEL.encode(d, 1), () -> x.encode(d, 1));
        }
        for (int data : new int[] {-1, 256, -128, 65536, Integer.MIN_VALUE, Integer.MAX_VALUE}) {
            refused("encode " + data, x, ARGUMENT, () -> x.encode(data, 0));
        }
        for (int before : new int[] {-1, 2, 3, Integer.MIN_VALUE, Integer.MAX_VALUE}) {
            refused("encode behind " + before, x, ARGUMENT, () -> x.encode(0, before));
            refused("decode behind " + before, x, ARGUMENT, () -> x.decode(43690, before));
        }
    }

    // "1 if the bit and the one before it, across bytes, are 0"
    private static void theBitBeforeAcrossBytes() {
        Shingletrack x = new Shingletrack();
        due("0 behind 0", 0b10, () -> x.encode(0b01111111, 0) >> 14);
        due("0 behind 1", 0b00, () -> x.encode(0b01111111, 1) >> 14);
        due("1 behind 0", 0b01, () -> x.encode(0b11111111, 0) >> 14);
        due("1 behind 1", 0b01, () -> x.encode(0b11111111, 1) >> 14);
        due("decoded behind 0", 127, () -> x.decode(0b1001010101010101, 0));
        due("not decoded behind 1", LOST, () -> x.decode(0b1001010101010101, 1));
        due("decoded behind 1", 127, () -> x.decode(0b0001010101010101, 1));
        due("not decoded behind 0", LOST, () -> x.decode(0b0001010101010101, 0));
        due("a 1 is decoded behind 0", 255, () -> x.decode(0b0101010101010101, 0));
        due("a 1 is decoded behind 1", 255, () -> x.decode(0b0101010101010101, 1));
    }

    // "the first cell is the highest bit of the number"
    private static void theFirstCellIsTheHighestBit() {
        Shingletrack x = new Shingletrack();
        due("the first bit alone", 0b0100101010101010, () -> x.encode(128, 0));
        due("the last bit alone", 0b1010101010101001, () -> x.encode(1, 0));
        due("all", 0b0101010101010101, () -> x.encode(255, 0));
        due("none", 0b1010101010101010, () -> x.encode(0, 0));
    }

    // "the cells, 0 to 65535", "if a clock cell is not as told"
    private static void cellsFrom0To65535() {
        Shingletrack x = new Shingletrack();
        for (int before = 0; before < 2; before++) {
            int b = before;
            String[] due = new String[65536];
            for (int data = 0; data < 256; data++) {
                due[MODEL.encode(data, b)] = String.valueOf(data);
            }
            for (int cells = 0; cells < 65536; cells++) {
                int c = cells;
                due("decode " + c + " " + b, due[c] == null ? LOST : due[c], () -> x.decode(c, b));
            }
        }
        for (int cells : new int[] {-1, 65536, 65536 + 43690, Integer.MIN_VALUE, Integer.MAX_VALUE}) {
            refused("decode " + cells, x, ARGUMENT, () -> x.decode(cells, 0));
        }
        refused("decode 0 behind 2", x, ARGUMENT, () -> x.decode(0, 2));
        refused("decode 0 behind -1", x, ARGUMENT, () -> x.decode(0, -1));
    }

    // ---- the channel ----

    // "-40 to 40 each"
    private static void samplesFromMinus40To40() {
        for (int sample = -40; sample <= 40; sample++) {
            Shingletrack x = new Shingletrack();
            int s = sample;
            due("sample " + s, 1, () -> x.sample(s));
            due("guess of " + s, s > 5 ? 1 : 0, x::guess);
        }
        Shingletrack x = new Shingletrack();
        for (int sample : new int[] {-41, 41, Integer.MIN_VALUE, Integer.MAX_VALUE}) {
            refused("sample " + sample, x, ARGUMENT, () -> x.sample(sample));
        }
        due("none of them is there", 1, () -> x.sample(0));
        Disks.sample(x, 40, -40, 40, -40, 40, -40, 40, -40, 40, -40, 40);
        due("the farthest ones", leastOf(0, 40, -40, 40, -40, 40, -40, 40, -40, 40, -40, 40), x::guess);
    }

    // "Of at most 12 samples", "if there are 12"
    private static void atMost12Samples() {
        Shingletrack x = new Shingletrack();
        for (int number = 1; number <= 12; number++) {
            int n = number;
            due("sample " + n, n, () -> x.sample(n == 12 ? 10 : 0));
        }
        refused("a thirteenth", x, STATE, () -> x.sample(-40));
        refused("a thirteenth, out of range", x, ARGUMENT, () -> x.sample(-41));
        refused("a thirteenth, out of range above", x, ARGUMENT, () -> x.sample(41));
        due("the twelve are as they were", 1, x::guess);
        for (int number = 1; number <= 12; number++) {
            int n = number;
            due("sample " + n + " again", n, () -> x.sample(0));
        }
        refused("a thirteenth again", x, STATE, () -> x.sample(0));
    }

    // "each as 10, what each is less the one two before it, 0 ahead of all"
    private static void zeroAheadOfAllCells() {
        guessed(0b1, 10);
        guessed(0b10, 10, 0);
        guessed(0b01, 0, 10);
        guessed(0b11, 10, 10);
        guessed(0b100, 10, 0, -10);
        guessed(0b101, 10, 0, 0);
        guessed(0b010, 0, 10, 0);
        guessed(0b0100, 0, 10, 0, -10);
    }

    private static void guessed(int cells, int... samples) {
        Shingletrack x = new Shingletrack();
        Disks.sample(x, samples);
        due("the first cell is the highest bit of " + cells, cells, x::guess);
    }

    // Samples that are just as told have but one guess, of up to twelve cells.
    private static void cellsAsTold() {
        for (int length = 1; length <= 12; length++) {
            for (int cells = 0; cells < 1 << length; cells++) {
                int[] samples = new int[length];
                for (int i = 0; i < length; i++) {
                    int older = i < 2 ? 0 : cells >> length + 1 - i & 1;
                    samples[i] = 10 * ((cells >> length - 1 - i & 1) - older);
                }
                guessed(cells, samples);
            }
        }
    }

    // "by the least sum of squares, of like ones the least number"
    private static void theLeastNumberOfLikeOnes() {
        int[] few = {-40, -15, -10, -5, 0, 5, 10, 15, 40};
        for (int i = 0; i < 9 * 9 * 9 * 9; i++) {
            int[] samples = {few[i % 9], few[i / 9 % 9], few[i / 81 % 9], few[i / 729]};
            guessed(leastOf(samples), samples);
        }
        for (int sample = -40; sample <= 40; sample += 5) {
            int[] samples = new int[12];
            Arrays.fill(samples, sample);
            guessed(leastOf(samples), samples);
        }
        guessed(0, 5);
        guessed(1, 6);
        guessed(0, 5, 5);
        guessed(0, 0, 0, -5);
    }

    private static int leastOf(int... samples) {
        for (int sample : samples) {
            MODEL.sample(sample);
        }
        return MODEL.guess();
    }

    // "Guesses the cells of the samples, which are gone then.", "0 without any"
    private static void noSamples() {
        Shingletrack x = new Shingletrack();
        due("without any", 0, x::guess);
        x.sample(40);
        due("one", 1, x::guess);
        due("gone then", 0, x::guess);
        due("counted anew", 1, () -> x.sample(-10));
        due("not as behind the cell that is gone", 0, x::guess);
        Disks.sample(x, 10, 10, -10, -10);
        due("four cells", 0b1100, x::guess);
        Disks.sample(x, 0, 0);
        due("none of the four is ahead of the next", 0, x::guess);
        due("nor then", 0, x::guess);
    }
}
