import java.util.NoSuchElementException;

/** Each promise by itself: ordinary inputs, the edges that the document names, and wrong inputs. */
public final class PromiseTest {
    private static final Class<?> INDEX = IndexOutOfBoundsException.class;
    private static final Class<?> ARGUMENT = IllegalArgumentException.class;
    private static final Class<?> STATE = IllegalStateException.class;
    private static final Class<?> NONE = NoSuchElementException.class;
    private static final Class<?> LOST = UnsupportedOperationException.class;

    private PromiseTest() {
    }

    public static void main(String[] args) {
        newObject();
        word();
        mend();
        mendWeak();
        mended();
        encode();
        decode();
        sample();
        guess();
        guessAgainstAll();
        write();
        writeToFullBuffer();
        writeToFullZone();
        barrier();
        cut();
        read();
        readLost();
        readWhileShaken();
        where();
        buffered();
        plain();
        end();
        clean();
        cleanLost();
        wipe();
        bad();
        isMapped();
        spares();
        harm();
        scrub();
        scrubLostBelowZone();
        shake();
        shock();
        heat();
        height();
        request();
        serve();
        idle();
        takes();
        timeArmWaited();
        count();
        checksum();
        mappedShare();
        meanWait();
        isSound();
        Checks.finish("PromiseTest");
    }

    private static void due(String what, Object due, Checks.Call call) {
        Checks.due(what, due, call);
    }

    private static void refused(String what, Shingletrack x, Class<?> due, Checks.Call call) {
        Checks.refused(what, x, due, call);
    }

    // ---- 1 to 8: words, cells and the channel ----

    private static void newObject() {
        Shingletrack x = new Shingletrack();
        for (int sector = 0; sector < 60; sector++) {
            int s = sector;
            due("1 where " + s, '-', () -> x.where(s));
            refused("1 read " + s, x, NONE, () -> x.read(s));
        }
        due("1 buffered", 0, x::buffered);
        due("1 plain", 0, x::plain);
        due("1 spares", 5, x::spares);
        due("1 time", 0, x::time);
        due("1 arm", 0, x::arm);
        due("1 end", 0, () -> x.end(2));
        due("1 isSound", true, x::isSound);
    }

    private static void word() {
        Shingletrack x = new Shingletrack();
        due("2 of 0", 0L, () -> x.word(0));
        due("2 of 1", 3545890817L, () -> x.word(1));
        due("2 of 43981", 1075162061L, () -> x.word(43981));
        due("2 of 65535", 907345919L, () -> x.word(65535));
        due("2 of a sum", 0L, () -> x.word(0x1234) ^ x.word(0x4321) ^ x.word(0x1234 ^ 0x4321));
        refused("2 of -1", x, ARGUMENT, () -> x.word(-1));
        refused("2 of 65536", x, ARGUMENT, () -> x.word(65536));
    }

    private static void mend() {
        Shingletrack x = new Shingletrack();
        long word = x.word(0xBEEF);
        due("3 whole", 0xBEEF, () -> x.mend(word, 0));
        for (int one = 0; one < 8; one++) {
            for (int other = 0; other < 8; other++) {
                long harmed = word ^ 9L << 4 * one ^ 6L << 4 * other;
                due("3 two places", 0xBEEF, () -> x.mend(harmed, 0));
                int weak = 1 << one | 1 << other;
                due("3 two weak places", 0xBEEF, () -> x.mend(harmed, weak));
            }
        }
        refused("3 three places", x, NONE, () -> x.mend(0x111L, 0));
        refused("3 word -1", x, ARGUMENT, () -> x.mend(-1, 0));
        refused("3 word too large", x, ARGUMENT, () -> x.mend(4294967296L, 0));
        refused("3 weak -1", x, ARGUMENT, () -> x.mend(0, -1));
        refused("3 weak 256", x, ARGUMENT, () -> x.mend(0, 256));
        refused("3 lost and out of range", x, ARGUMENT, () -> x.mend(0x111L, 256));
    }

    private static void mendWeak() {
        Shingletrack x = new Shingletrack();
        long word = x.word(4711);
        long harmed = word ^ 0x50A03002L;
        due("3 four weak", 4711, () -> x.mend(harmed, 0b10101001));
        due("3 four weak that are whole", 4711, () -> x.mend(word, 0b1111));
        refused("3 five weak that are whole", x, NONE, () -> x.mend(word, 0b11111));
        refused("3 all weak", x, NONE, () -> x.mend(0, 255));
        due("3 one weak, one not", 4711, () -> x.mend(word ^ 0x12L, 1));
        refused("3 one weak, two not", x, NONE, () -> x.mend(0x1011, 1));
        due("3 two weak, one not", 4711, () -> x.mend(word ^ 0x212L, 3));
        refused("3 three weak, one not", x, NONE, () -> x.mend(0x1111, 7));
        due("3 another word is nearer", 52641, () -> x.mend(1, 30));
    }

    private static void mended() {
        Shingletrack x = new Shingletrack();
        long word = x.word(31000);
        due("4 whole", 0, () -> x.mended(word, 0));
        due("4 one", 1, () -> x.mended(word ^ 0x700L, 0));
        due("4 two", 2, () -> x.mended(word ^ 0x70000001L, 0));
        due("4 weak and whole", 0, () -> x.mended(word, 15));
        due("4 weak ones count", 3, () -> x.mended(word ^ 0x111L, 3));
        due("4 four weak", 4, () -> x.mended(65535, 240));
        refused("4 lost", x, NONE, () -> x.mended(0x111L, 0));
        refused("4 word -1", x, ARGUMENT, () -> x.mended(-1, 0));
        refused("4 word too large", x, ARGUMENT, () -> x.mended(4294967296L, 0));
        refused("4 weak -1", x, ARGUMENT, () -> x.mended(0, -1));
        refused("4 weak 256", x, ARGUMENT, () -> x.mended(0x111L, 256));
    }

    private static void encode() {
        Shingletrack x = new Shingletrack();
        due("5 of 0", 0b1010101010101010, () -> x.encode(0, 0));
        due("5 of 0 behind 1", 0b0010101010101010, () -> x.encode(0, 1));
        due("5 of 255", 0b0101010101010101, () -> x.encode(255, 0));
        due("5 of 0b10010001", 0b0100100100101001, () -> x.encode(0b10010001, 0));
        refused("5 data -1", x, ARGUMENT, () -> x.encode(-1, 0));
        refused("5 data 256", x, ARGUMENT, () -> x.encode(256, 0));
        refused("5 before -1", x, ARGUMENT, () -> x.encode(0, -1));
        refused("5 before 2", x, ARGUMENT, () -> x.encode(0, 2));
    }

    private static void decode() {
        Shingletrack x = new Shingletrack();
        for (int data = 0; data < 256; data++) {
            for (int before = 0; before < 2; before++) {
                int d = data;
                int b = before;
                due("6 of " + d, d, () -> x.decode(x.encode(d, b), b));
            }
        }
        for (int bit = 1; bit < 16; bit += 2) {
            int clock = 1 << bit;
            refused("6 clock turned", x, NONE, () -> x.decode(x.encode(0x4C, 0) ^ clock, 0));
        }
        refused("6 behind another bit", x, NONE, () -> x.decode(x.encode(1, 0), 1));
        refused("6 cells 0", x, NONE, () -> x.decode(0, 1));
        refused("6 cells -1", x, ARGUMENT, () -> x.decode(-1, 0));
        refused("6 cells 65536", x, ARGUMENT, () -> x.decode(65536, 0));
        refused("6 before -1", x, ARGUMENT, () -> x.decode(0, -1));
        refused("6 before 2", x, ARGUMENT, () -> x.decode(65535, 2));
    }

    private static void sample() {
        Shingletrack x = new Shingletrack();
        refused("7 -41", x, ARGUMENT, () -> x.sample(-41));
        refused("7 41", x, ARGUMENT, () -> x.sample(41));
        for (int i = 1; i <= 12; i++) {
            int number = i;
            due("7 sample " + i, number, () -> x.sample(number % 2 == 0 ? -40 : 40));
        }
        refused("7 thirteenth", x, STATE, () -> x.sample(0));
        refused("7 thirteenth, out of range", x, ARGUMENT, () -> x.sample(41));
        x.guess();
        due("7 after a guess", 1, () -> x.sample(0));
    }

    private static void guess() {
        Shingletrack x = new Shingletrack();
        due("8 of none", 0, x::guess);
        Disks.sample(x, 10, 11, -8, 0);
        due("8 of four", 0b1101, x::guess);
        due("8 then of none", 0, x::guess);
        Disks.sample(x, 5);
        due("8 the least of like ones", 0, x::guess);
        Disks.sample(x, 6);
        due("8 nearer", 1, x::guess);
        Disks.sample(x, 5, 5, 5);
        due("8 the least of three", 0, x::guess);
        Disks.sample(x, 10, 10, -10, -10, 10, 10, -10, -10, 0, 0, 10, 0);
        due("8 of twelve as told", 0b110011000010, x::guess);
    }

    private static void guessAgainstAll() {
        Shingletrack x = new Shingletrack();
        int[] samples = new int[12];
        int next = 1;
        for (int run = 0; run < 30; run++) {
            int length = run % 12 + 1;
            for (int i = 0; i < length; i++) {
                next = (next * 75 + 74) % 65537;
                samples[i] = run % 3 == 0 ? 5 * (next % 5 - 2) : next % 81 - 40;
                x.sample(samples[i]);
            }
            due("8 run " + run, leastOf(samples, length), x::guess);
        }
    }

    private static int leastOf(int[] samples, int length) {
        int best = 0;
        int least = Integer.MAX_VALUE;
        for (int cells = 0; cells < 1 << length; cells++) {
            int squares = 0;
            int older = 0;
            int last = 0;
            for (int i = 0; i < length; i++) {
                int cell = cells >> length - 1 - i & 1;
                int off = samples[i] - 10 * (cell - older);
                squares += off * off;
                older = last;
                last = cell;
            }
            if (squares < least) {
                least = squares;
                best = cells;
            }
        }
        return best;
    }

    // ---- 9 to 18: writing and reading ----

    private static void write() {
        Shingletrack x = new Shingletrack();
        due("9 first", 1, () -> x.write(0, 0));
        due("9 second", 2, () -> x.write(59, 65535));
        due("9 one that is there", 2, () -> x.write(0, 77));
        due("9 its value", 77, () -> x.read(0));
        due("9 the other's", 65535, () -> x.read(59));
        refused("9 sector -1", x, INDEX, () -> x.write(-1, -1));
        refused("9 sector 60", x, INDEX, () -> x.write(60, 0));
        refused("9 value -1", x, ARGUMENT, () -> x.write(0, -1));
        refused("9 value 65536", x, ARGUMENT, () -> x.write(0, 65536));
        x.shock(true);
        refused("9 shaken", x, STATE, () -> x.write(0, 1));
        refused("9 shaken, wrong value", x, ARGUMENT, () -> x.write(0, 65536));
        refused("9 shaken, wrong sector", x, INDEX, () -> x.write(60, 65536));
        x.shock(false);
        x.heat(61);
        refused("9 too low", x, STATE, () -> x.write(0, 1));
        x.heat(60);
        due("9 just high enough", 2, () -> x.write(0, 1));
    }

    private static void writeToFullBuffer() {
        Shingletrack x = new Shingletrack();
        for (int sector = 0; sector < 6; sector++) {
            x.write(sector, sector);
        }
        due("9 one in a full buffer", 6, () -> x.write(0, 100));
        due("9 nothing went", 0, () -> x.end(0));
        due("9 a further one", 6, () -> x.write(6, 6));
        due("9 the first went", 'o', () -> x.where(0));
        due("9 with its last value", 100, () -> x.read(0));
        due("9 the second waits", 'b', () -> x.where(1));
        due("9 the first again", 6, () -> x.write(0, 101));
        due("9 the second went", 'o', () -> x.where(1));
        due("9 the first waits", 'b', () -> x.where(0));
        due("9 end", 2, () -> x.end(0));
        due("9 words on the platter", 2, () -> x.count('p'));
        x.barrier();
        for (int sector = 1; sector < 7; sector++) {
            int s = sector;
            due("9 value of " + s, s, () -> x.read(s));
        }
        due("9 value of the first", 101, () -> x.read(0));
    }

    private static void writeToFullZone() {
        Shingletrack x = Disks.with(21, 22, 23, 24, 45, 46, 47, 48, 1, 2);
        due("9 zone is full", 10, x::plain);
        Disks.send(x, 22);
        due("9 in place of its older one", 10, x::plain);
        due("9 without a cleaning", 0, () -> x.count('c'));
        Disks.send(x, 40);
        due("9 the end of a band needs no room", 0, () -> x.count('c'));
        Disks.send(x, 3);
        due("9 the lowest of the fullest is cleaned", 5, () -> x.end(1));
        due("9 its sectors left the zone", 7, x::plain);
        due("9 the other was not cleaned", 1, () -> x.end(2));
        due("9 where the sector went", 'p', () -> x.where(3));
        due("9 one cleaning", 1, () -> x.count('c'));
        due("9 words written", 17, () -> x.count('p'));
        due("9 the cleaned value", 1022, () -> x.read(22));

        Shingletrack y = Disks.with(1, 2, 3, 4, 21, 22, 23, 41, 42, 43);
        Disks.send(y, 5);
        due("9 looked at anew, it is at the end", 'o', () -> y.where(5));
        due("9 its band's end then", 6, () -> y.end(0));
        due("9 the zone then", 6, y::plain);

        Shingletrack z = Disks.with(3, 4);
        Disks.send(z, Disks.row(0, 4));
        due("9 the older word in the zone is gone", 1, z::plain);
        due("9 now in its band", 'o', () -> z.where(3));
        due("9 the other stays", 'p', () -> z.where(4));
        due("9 counted in either", 6, () -> z.count('p'));
    }

    private static void barrier() {
        Shingletrack x = new Shingletrack();
        due("10 empty", 0, x::barrier);
        x.write(1, 11);
        x.write(0, 10);
        due("10 two", 2, x::barrier);
        due("10 the first went first", 'p', () -> x.where(1));
        due("10 the second to its band", 'o', () -> x.where(0));
        due("10 none left", 0, x::buffered);
        due("10 value of the first", 11, () -> x.read(1));
        due("10 value of the second", 10, () -> x.read(0));
        x.write(2, 12);
        x.shock(true);
        refused("10 shaken", x, STATE, x::barrier);
        x.shock(false);
        x.heat(90);
        refused("10 too low", x, STATE, x::barrier);
        Shingletrack y = new Shingletrack();
        y.shock(true);
        refused("10 shaken and empty", y, STATE, y::barrier);
    }

    private static void cut() {
        Shingletrack x = Disks.with(0, 7);
        due("11 empty", 0, x::cut);
        x.write(0, 1);
        x.write(7, 2);
        x.write(8, 3);
        x.shock(true);
        due("11 three, even if shaken", 3, x::cut);
        x.shock(false);
        due("11 back to its band", 1000, () -> x.read(0));
        due("11 back to the zone", 1007, () -> x.read(7));
        due("11 never written", '-', () -> x.where(8));
        refused("11 read it", x, NONE, () -> x.read(8));
        due("11 buffered", 0, x::buffered);
    }

    private static void read() {
        Shingletrack x = Disks.with(0);
        due("12 from the band", 1000, () -> x.read(0));
        x.clean(0);
        x.write(0, 5);
        due("12 from the buffer", 5, () -> x.read(0));
        x.barrier();
        due("12 from the zone", 5, () -> x.read(0));
        due("12 reads", 3, () -> x.count('r'));
        refused("12 sector -1", x, INDEX, () -> x.read(-1));
        refused("12 sector 60", x, INDEX, () -> x.read(60));
        refused("12 never written", x, NONE, () -> x.read(1));
        Disks.harmPlaces(x, 0, 2, 2);
        due("12 mended", 5, () -> x.read(0));
        due("12 mended again, as it stays", 5, () -> x.read(0));
        due("12 places mended", 4, () -> x.count('m'));
    }

    private static void readLost() {
        Shingletrack x = Disks.with(0, 1);
        Disks.lose(x, 0);
        refused("12 lost", x, LOST, () -> x.read(0));
        due("12 not told yet", 'o', () -> x.where(0));
        x.shock(true);
        refused("12 lost, not told, shaken", x, STATE, () -> x.read(0));
        x.shock(false);
        x.scrub();
        refused("12 told lost", x, LOST, () -> x.read(0));
        x.shock(true);
        refused("12 told lost, shaken", x, LOST, () -> x.read(0));
        x.shock(false);
        x.write(0, 9);
        due("12 waits in the buffer", 9, () -> x.read(0));
        x.cut();
        refused("12 lost again behind a cut", x, LOST, () -> x.read(0));
        Disks.send(x, 0);
        due("12 newer word", 1000, () -> x.read(0));
        x.cut();
        due("12 no longer lost", 'p', () -> x.where(0));

        Shingletrack y = Disks.with(0);
        Disks.send(y, 0);
        Disks.lose(y, 0);
        refused("12 the newest word counts", y, LOST, () -> y.read(0));
    }

    private static void readWhileShaken() {
        Shingletrack x = Disks.with(0, 9);
        x.write(30, 3);
        x.shock(true);
        due("12 buffer while shaken", 3, () -> x.read(30));
        refused("12 band while shaken", x, STATE, () -> x.read(0));
        refused("12 zone while shaken", x, STATE, () -> x.read(9));
        refused("12 none while shaken", x, NONE, () -> x.read(1));
        refused("12 no sector while shaken", x, INDEX, () -> x.read(60));
        x.shock(false);
        x.heat(61);
        refused("12 too low", x, STATE, () -> x.read(0));
        due("12 buffer while too low", 3, () -> x.read(30));
        x.heat(60);
        due("12 high enough", 1000, () -> x.read(0));
    }

    private static void where() {
        Shingletrack x = Disks.with(0, 1, 1, 5);
        x.write(6, 0);
        x.write(0, 0);
        Disks.lose(x, 5);
        due("13 in the buffer as well", 'b', () -> x.where(0));
        due("13 in the zone as well", 'p', () -> x.where(1));
        due("13 in the buffer alone", 'b', () -> x.where(6));
        due("13 in the zone", 'p', () -> x.where(5));
        due("13 never", '-', () -> x.where(59));
        x.cut();
        due("13 in its band", 'o', () -> x.where(0));
        x.clean(0);
        due("13 told lost", 'l', () -> x.where(5));
        refused("13 sector -1", x, INDEX, () -> x.where(-1));
        refused("13 sector 60", x, INDEX, () -> x.where(60));
    }

    private static void buffered() {
        Shingletrack x = new Shingletrack();
        for (int sector = 0; sector < 9; sector++) {
            due("14 ahead of " + sector, Math.min(sector, 6), x::buffered);
            x.write(sector, 0);
        }
        x.barrier();
        due("14 behind a barrier", 0, x::buffered);
    }

    private static void plain() {
        Shingletrack x = Disks.with(0, 3, 33);
        due("15 two", 2, x::plain);
        Disks.send(x, 33, 0);
        due("15 three", 3, x::plain);
        x.clean(0);
        due("15 one left", 1, x::plain);
    }

    private static void end() {
        Shingletrack x = Disks.with(Disks.row(20, 40));
        due("16 full", 20, () -> x.end(1));
        due("16 empty", 0, () -> x.end(0));
        Disks.send(x, 20);
        due("16 still full", 20, () -> x.end(1));
        due("16 sector to the zone", 'p', () -> x.where(20));
        refused("16 band -1", x, INDEX, () -> x.end(-1));
        refused("16 band 3", x, INDEX, () -> x.end(3));
    }

    private static void clean() {
        Shingletrack x = Disks.with(0, 1, 2, 1, 6, 26);
        Disks.harmPlaces(x, 0, 0, 2);
        x.harm(2, 4, 0, true);
        x.write(3, 3);
        due("17 end", 7, () -> x.clean(0));
        due("17 the band's own", 1000, () -> x.read(0));
        due("17 the zone's", 'o', () -> x.where(1));
        due("17 its value", 1001, () -> x.read(1));
        due("17 behind its last in the zone", 'o', () -> x.where(6));
        due("17 none is none", '-', () -> x.where(4));
        due("17 buffered one stays", 'b', () -> x.where(3));
        due("17 another band's stays", 'p', () -> x.where(26));
        due("17 mended", 2, () -> x.count('m'));
        due("17 words written", 10, () -> x.count('p'));
        due("17 empty band", 0, () -> x.clean(2));
        due("17 up to its old end", 7, () -> x.clean(0));
        due("17 mended words stay whole", 2, () -> x.count('m'));
        x.shock(true);
        refused("17 shaken", x, STATE, () -> x.clean(0));
        refused("17 shaken, no band", x, INDEX, () -> x.clean(3));
        x.shock(false);
        refused("17 band -1", x, INDEX, () -> x.clean(-1));
        x.heat(61);
        refused("17 too low", x, STATE, () -> x.clean(0));

        Shingletrack y = Disks.with(39);
        due("17 up to the last place", 20, () -> y.clean(1));
    }

    private static void cleanLost() {
        Shingletrack x = Disks.with(0, 1, 2, 1);
        Disks.lose(x, 0);
        Disks.lose(x, 1);
        x.write(0, 55);
        x.clean(0);
        due("17 told lost, but in the buffer", 'b', () -> x.where(0));
        x.cut();
        due("17 told lost", 'l', () -> x.where(0));
        due("17 the zone's, even if lost", 'l', () -> x.where(1));
        due("17 words told lost", 2, () -> x.count('l'));
        due("17 end stays", 3, () -> x.end(0));
        due("17 the other", 1002, () -> x.read(2));
        x.clean(0);
        due("17 none is not told again", 2, () -> x.count('l'));
        x.write(0, 56);
        x.barrier();
        due("17 newer word", 56, () -> x.read(0));
    }

    private static void wipe() {
        Shingletrack x = Disks.with(0, 1, 9, 29);
        Disks.lose(x, 0);
        x.scrub();
        Disks.lose(x, 29);
        x.write(40, 1);
        x.bad(0, 0);
        x.request(5);
        x.idle(7);
        x.sample(10);
        x.shock(true);
        int written = x.count('w');
        due("18 had", 4, x::wipe);
        due("18 again", 0, x::wipe);
        x.shock(false);
        for (int sector = 0; sector < 60; sector++) {
            int s = sector;
            due("18 where " + s, '-', () -> x.where(s));
        }
        due("18 end", 0, () -> x.end(0));
        due("18 plain", 0, x::plain);
        due("18 buffered", 0, x::buffered);
        due("18 counters stay", written, () -> x.count('w'));
        due("18 time stays", 7, x::time);
        due("18 requests stay", 5, () -> x.serve('f'));
        due("18 samples stay", 2, () -> x.sample(10));
        due("18 bad places stay", true, () -> x.bad(0, 0));
        Disks.send(x, 0);
        due("18 goes to the band's first place", 'o', () -> x.where(0));

        Shingletrack y = Disks.with(0);
        Disks.lose(y, 0);
        y.scrub();
        y.write(0, 8);
        due("18 has the buffer's value", 1, y::wipe);
    }

    // ---- 19 to 28: harm and care ----

    private static void bad() {
        Shingletrack x = new Shingletrack();
        due("19 first", false, () -> x.bad(0, 7));
        due("19 again", true, () -> x.bad(0, 7));
        due("19 another", false, () -> x.bad(2, 19));
        refused("19 band -1", x, INDEX, () -> x.bad(-1, 0));
        refused("19 band 3", x, INDEX, () -> x.bad(3, 0));
        refused("19 index -1", x, INDEX, () -> x.bad(0, -1));
        refused("19 index 20", x, INDEX, () -> x.bad(0, 20));
        Disks.send(x, Disks.row(0, 8));
        due("19 mended as it is read", 1007, () -> x.read(7));
        due("19 two places", 2, () -> x.count('m'));
        long word = x.word(1007);
        due("19 nibble 7", (int) (word >> 28) ^ 15, () -> x.harm(7, 7, 0, false));
        due("19 nibble 10 less 8", (int) (word >> 8 & 15) ^ 15, () -> x.harm(7, 2, 0, false));
        due("19 other nibbles", (int) (word & 15), () -> x.harm(7, 0, 0, false));
        x.clean(0);
        due("19 as it is cleaned, too", (int) (word >> 28) ^ 15, () -> x.harm(7, 7, 0, false));
        Disks.send(x, 7);
        due("19 not in the zone", (int) (word >> 28), () -> x.harm(7, 7, 0, false));

        Shingletrack y = Disks.with(0);
        y.bad(0, 0);
        y.read(0);
        due("19 what was written ahead is whole", 0, () -> y.count('m'));
    }

    private static void isMapped() {
        Shingletrack x = new Shingletrack();
        x.bad(1, 0);
        Disks.send(x, 20, 21);
        due("20 not yet", false, () -> x.isMapped(1, 0));
        x.scrub();
        due("20 as it is scrubbed", true, () -> x.isMapped(1, 0));
        due("20 not another", false, () -> x.isMapped(1, 1));
        due("20 still bad", true, () -> x.bad(1, 0));
        x.clean(1);
        x.read(20);
        due("20 good from then on", 2, () -> x.count('m'));
        x.harm(21, 0, 1, false);
        x.scrub();
        due("20 a good place is not mapped", false, () -> x.isMapped(1, 1));
        x.wipe();
        due("20 stays behind a wipe", true, () -> x.isMapped(1, 0));
        refused("20 band -1", x, INDEX, () -> x.isMapped(-1, 0));
        refused("20 band 3", x, INDEX, () -> x.isMapped(3, 0));
        refused("20 index -1", x, INDEX, () -> x.isMapped(0, -1));
        refused("20 index 20", x, INDEX, () -> x.isMapped(0, 20));
    }

    private static void spares() {
        Shingletrack x = new Shingletrack();
        for (int index = 0; index < 6; index++) {
            x.bad(0, index);
        }
        Disks.send(x, Disks.row(0, 6));
        due("21 all", 5, x::spares);
        due("21 six mended", 6, x::scrub);
        due("21 none left", 0, x::spares);
        due("21 the fifth", true, () -> x.isMapped(0, 4));
        due("21 not the sixth", false, () -> x.isMapped(0, 5));
        due("21 it is harmed anew", 1, x::scrub);
        due("21 places mended", 14, () -> x.count('m'));
        due("21 words written", 13, () -> x.count('p'));
    }

    private static void harm() {
        Shingletrack x = Disks.with(0, 1, 1);
        long word = x.word(1000);
        for (int place = 0; place < 8; place++) {
            int p = place;
            int nibble = (int) (word >> 4 * p & 15);
            due("22 turned", nibble ^ 6, () -> x.harm(0, p, 6, true));
            due("22 turned back", nibble, () -> x.harm(0, p, 6, false));
        }
        due("22 whole and not weak", 1000, () -> x.read(0));
        due("22 nothing mended", 0, () -> x.count('m'));
        Disks.harmPlaces(x, 1, 0, 3);
        refused("22 the zone's word", x, LOST, () -> x.read(1));
        x.write(0, 4);
        Disks.harmPlaces(x, 0, 0, 3);
        due("22 not the buffer's", 4, () -> x.read(0));
        x.write(59, 4);
        refused("22 in the buffer alone", x, LOST, () -> x.harm(59, 0, 0, false));
        refused("22 never written", x, LOST, () -> x.harm(30, 0, 0, false));
        refused("22 none, and place 8", x, ARGUMENT, () -> x.harm(30, 8, 0, false));
        refused("22 no sector, and place 8", x, INDEX, () -> x.harm(60, 8, 0, false));
        refused("22 sector -1", x, INDEX, () -> x.harm(-1, 0, 0, false));
        refused("22 place -1", x, ARGUMENT, () -> x.harm(0, -1, 0, false));
        refused("22 by -1", x, ARGUMENT, () -> x.harm(0, 0, -1, false));
        refused("22 by 16", x, ARGUMENT, () -> x.harm(0, 0, 16, false));
        x.clean(0);
        refused("22 told lost", x, LOST, () -> x.harm(1, 0, 0, false));
    }

    private static void scrub() {
        Shingletrack x = Disks.with(0, 1, 2, 3, 9);
        due("23 whole", 0, x::scrub);
        Disks.harmPlaces(x, 0, 0, 2);
        x.harm(1, 5, 0, true);
        Disks.lose(x, 2);
        Disks.harmPlaces(x, 9, 0, 2);
        due("23 one mended", 1, x::scrub);
        due("23 two places", 2, () -> x.count('m'));
        due("23 one written", 6, () -> x.count('p'));
        due("23 lost", 'l', () -> x.where(2));
        due("23 counted", 1, () -> x.count('l'));
        due("23 the zone is not scrubbed", 1009, () -> x.read(9));
        due("23 its places are mended as read", 4, () -> x.count('m'));
        Disks.harmPlaces(x, 1, 0, 2);
        refused("23 whole but weak ones stay weak", x, LOST, () -> x.read(1));
        x.harm(3, 0, 1, true);
        x.scrub();
        Disks.harmPlaces(x, 3, 1, 2);
        due("23 a mended one has no weak places", 1003, () -> x.read(3));
        x.shock(true);
        refused("23 shaken", x, STATE, x::scrub);
        x.shock(false);
        x.heat(61);
        refused("23 too low", x, STATE, x::scrub);
        x.heat(60);
        due("23 high enough", 1, x::scrub);
    }

    private static void scrubLostBelowZone() {
        Shingletrack x = Disks.with(0, 1);
        Disks.lose(x, 0);
        Disks.send(x, 0);
        due("23 none mended", 0, x::scrub);
        due("23 counted in any case", 1, () -> x.count('l'));
        due("23 the zone has it", 1000, () -> x.read(0));
        due("23 not told again", 0, x::scrub);
        due("23 counted once", 1, () -> x.count('l'));

        Shingletrack y = Disks.with(Disks.row(0, 7));
        y.shake(true);
        Disks.harmPlaces(y, 5, 0, 1);
        y.scrub();
        y.read(0);
        due("23 harms nobody", 1, () -> y.count('m'));

        Shingletrack z = Disks.with(0);
        z.bad(0, 0);
        z.scrub();
        due("23 a bad place with a whole word is not mapped", 5, z::spares);
        Disks.lose(z, 0);
        z.scrub();
        due("23 nor one with a lost word", 5, z::spares);
    }

    private static void shake() {
        Shingletrack x = Disks.with(Disks.row(0, 3));
        due("24 did not", false, () -> x.shake(true));
        due("24 did", true, () -> x.shake(true));
        Disks.send(x, 3, 4, 5);
        long word = x.word(1000);
        due("24 five less, nibble 0", (int) (word & 15) ^ 1, () -> x.harm(0, 0, 0, false));
        Disks.send(x, Disks.row(6, 14));
        long eighth = x.word(1008);
        due("24 nibble of index 8 by 8", (int) (eighth & 15) ^ 1, () -> x.harm(8, 0, 0, false));
        Disks.send(x, 1);
        long first = x.word(1001);
        due("24 never in the zone", (int) (first >> 4 & 15), () -> x.harm(1, 1, 0, false));
        int mended = x.count('m');
        x.clean(0);
        due("24 cleaned", mended + 8, () -> x.count('m'));
        due("24 cleaning harms, too", (int) (word & 15) ^ 1, () -> x.harm(0, 0, 0, false));
        due("24 stops", true, () -> x.shake(false));
        x.clean(0);
        due("24 harms no longer", (int) (word & 15), () -> x.harm(0, 0, 0, false));

        Shingletrack y = Disks.with(Disks.row(20, 24));
        y.shake(true);
        Disks.send(y, Disks.row(0, 5));
        y.read(20);
        due("24 not in another band", 0, () -> y.count('m'));
    }

    private static void shock() {
        Shingletrack x = Disks.with(0);
        due("25 was none", false, () -> x.shock(true));
        due("25 was one", true, () -> x.shock(true));
        refused("25 while shaken", x, STATE, () -> x.read(0));
        due("25 over", true, () -> x.shock(false));
        due("25 was over", false, () -> x.shock(false));
        due("25 read then", 1000, () -> x.read(0));
        x.shake(true);
        due("25 to shake is no shock", 1000, () -> x.read(0));
    }

    private static void heat() {
        Shingletrack x = new Shingletrack();
        due("26 at first", 20, () -> x.heat(-20));
        due("26 least", -20, () -> x.heat(90));
        due("26 most", 90, () -> x.heat(0));
        refused("26 -21", x, ARGUMENT, () -> x.heat(-21));
        refused("26 91", x, ARGUMENT, () -> x.heat(91));
        due("26 kept", 0, () -> x.heat(0));
    }

    private static void height() {
        Shingletrack x = new Shingletrack();
        due("27 at first", 10.0f, x::height);
        for (int heat = -20; heat <= 90; heat++) {
            float height = 10.0f - (heat - 20.0f) / 5.0f;
            x.heat(heat);
            due("27 at " + heat, height, x::height);
            due("28 at " + heat, Float.floatToIntBits(height), x::heightBits);
        }
        x.heat(61);
        due("28 of 1.8", 1072064104, x::heightBits);
        x.heat(70);
        due("28 of 0", 0, x::heightBits);
        x.heat(90);
        due("28 of -4", 0xC0800000, x::heightBits);
    }

    // ---- 29 to 35: seeks ----

    private static void request() {
        Shingletrack x = new Shingletrack();
        for (int i = 1; i <= 8; i++) {
            int number = i;
            due("29 number " + i, number, () -> x.request(number < 5 ? 59 : 0));
        }
        refused("29 ninth", x, STATE, () -> x.request(0));
        refused("29 ninth, no sector", x, INDEX, () -> x.request(60));
        x.serve('f');
        due("29 room again", 8, () -> x.request(0));
        refused("29 sector -1", x, INDEX, () -> x.request(-1));
    }

    private static void serve() {
        Shingletrack x = new Shingletrack();
        refused("30 none waits", x, NONE, () -> x.serve('f'));
        refused("30 none waits, no order", x, ARGUMENT, () -> x.serve('x'));
        x.request(45);
        x.request(2);
        refused("30 no order", x, ARGUMENT, () -> x.serve('F'));
        due("30 by 'n'", 2, () -> x.serve('n'));
        due("30 the other", 45, () -> x.serve('n'));
        x.request(59);
        x.request(45);
        due("30 by 'f'", 59, () -> x.serve('f'));
        due("30 its track", 11, x::arm);

        Shingletrack y = new Shingletrack();
        y.request(45);
        y.idle(149);
        y.request(0);
        due("30 not yet too old", 0, () -> y.serve('n'));
        y.request(0);
        y.request(1);
        due("30 too old", 45, () -> y.serve('n'));

        Shingletrack z = new Shingletrack();
        z.request(45);
        z.idle(150);
        z.request(0);
        due("30 just too old", 45, () -> z.serve('n'));
        due("30 the other", 0, () -> z.serve('n'));
        z.request(45);
        z.request(0);
        due("30 old by its own coming", 0, () -> z.serve('n'));
        z.request(59);
        z.idle(999);
        z.request(1);
        due("30 the oldest one of two", 45, () -> z.serve('n'));
        serveLikeOnes();
    }

    private static void serveLikeOnes() {
        // At first the sectors 2 and 15 both take 18 ticks, on the tracks 0 and 3.
        for (int first : new int[] {2, 15}) {
            Shingletrack x = new Shingletrack();
            x.request(first);
            x.request(17 - first);
            due("30 alike", 18, () -> x.takes(first));
            due("30 alike, the other", 18, () -> x.takes(17 - first));
            due("30 of like ones the first", first, () -> x.serve('n'));
            due("30 then the other", 17 - first, () -> x.serve('n'));
        }
        Shingletrack y = new Shingletrack();
        y.request(3);
        y.idle(1);
        y.request(3);
        due("30 of the same sector the first", 3, () -> y.serve('n'));
        due("30 so it waited longer", 24, y::waited);
    }

    private static void idle() {
        Shingletrack x = new Shingletrack();
        due("31 one", 1, () -> x.idle(1));
        due("31 most", 1000, () -> x.idle(999));
        refused("31 none", x, ARGUMENT, () -> x.idle(0));
        refused("31 1000", x, ARGUMENT, () -> x.idle(1000));
        refused("31 less than none", x, ARGUMENT, () -> x.idle(-1));
        for (int i = 0; i < 99; i++) {
            x.idle(999);
        }
        refused("31 above 99999", x, STATE, () -> x.idle(99));
        refused("31 above, out of range", x, ARGUMENT, () -> x.idle(1000));
        due("31 up to 99999", 99999, () -> x.idle(98));
        refused("31 one more", x, STATE, () -> x.idle(1));
        x.request(59);
        due("31 serving goes on", 59, () -> x.serve('f'));
    }

    private static void takes() {
        Shingletrack x = new Shingletrack();
        due("32 at its place", 6, () -> x.takes(0));
        due("32 on its track", 30, () -> x.takes(4));
        due("32 track 1", 40, () -> x.takes(5));
        due("32 track 11", 44, () -> x.takes(59));
        x.idle(1);
        due("32 just gone by", 35, () -> x.takes(0));
        x.idle(27);
        due("32 just there", 12, () -> x.takes(5));
        x.idle(1);
        due("32 just too late", 41, () -> x.takes(5));
        x.idle(1);
        due("32 a turn later", 6, () -> x.takes(0));
        x.idle(4);
        due("32 just there over four tracks", 18, () -> x.takes(20));
        x.idle(1);
        due("32 just too late over four tracks", 47, () -> x.takes(20));
        x.idle(25);
        x.request(59);
        x.serve('f');
        due("32 back to track 0", 40, () -> x.takes(3));
        refused("32 sector -1", x, INDEX, () -> x.takes(-1));
        refused("32 sector 60", x, INDEX, () -> x.takes(60));
    }

    private static void timeArmWaited() {
        Shingletrack x = new Shingletrack();
        x.request(59);
        x.idle(2);
        due("33 behind idling", 2, x::time);
        due("34 at first", 0, x::arm);
        due("35 at first", 0, x::waited);
        x.serve('n');
        due("33 behind serving", 44, x::time);
        due("34 track", 11, x::arm);
        due("35 one", 44, x::waited);
        x.request(20);
        x.serve('n');
        due("33 behind the second", 82, x::time);
        due("34 track 4", 4, x::arm);
        due("35 both", 82, x::waited);
    }

    // ---- 36 to 40: counters and sums ----

    private static void count() {
        Shingletrack x = Disks.with(0, 1, 7);
        for (char what = 0; what < 300; what++) {
            char w = what;
            if ("wrpmlc".indexOf(w) < 0) {
                refused("36 " + (int) w, x, ARGUMENT, () -> x.count(w));
            }
        }
        due("36 w", 3, () -> x.count('w'));
        due("36 p", 3, () -> x.count('p'));
        x.write(1, 1);
        x.write(1, 2);
        due("36 w into the buffer", 5, () -> x.count('w'));
        due("36 p not yet", 3, () -> x.count('p'));
        x.read(1);
        x.read(0);
        due("36 r", 2, () -> x.count('r'));
        Disks.lose(x, 0);
        refused("36 lost", x, LOST, () -> x.read(0));
        due("36 r of answers alone", 2, () -> x.count('r'));
        due("36 l not told yet", 0, () -> x.count('l'));
        x.clean(0);
        due("36 l", 1, () -> x.count('l'));
        due("36 c", 1, () -> x.count('c'));
        due("36 p of cleaning", 5, () -> x.count('p'));
        x.harm(1, 0, 1, false);
        x.cut();
        x.read(1);
        due("36 m as read", 1, () -> x.count('m'));
        x.scrub();
        due("36 m as scrubbed", 2, () -> x.count('m'));
        x.harm(1, 0, 1, false);
        x.clean(0);
        due("36 m as cleaned", 3, () -> x.count('m'));
    }

    private static void checksum() {
        Shingletrack x = new Shingletrack();
        due("37 at first", sumOf(x, new int[60]), x::checksum);
        Disks.send(x, 0, 1, 21);
        x.write(59, 1);
        x.idle(77);
        x.harm(0, 7, 3, true);
        int[] weights = new int[60];
        weights[0] = weight(x.word(1000) ^ 3L << 28);
        weights[1] = weight(x.word(1001));
        due("37 with words", sumOf(x, weights), x::checksum);
        x.clean(1);
        weights[21] = weight(x.word(1021));
        due("37 then", sumOf(x, weights), x::checksum);
    }

    private static int weight(long word) {
        int weight = 0;
        for (int place = 0; place < 8; place++) {
            weight += (int) (word >> 4 * place & 15) * (place + 1);
        }
        return weight;
    }

    private static long sumOf(Shingletrack x, int[] weights) {
        long sum = 7;
        for (int sector = 0; sector < 60; sector++) {
            sum = 31 * sum + (int) x.where(sector);
        }
        for (int sector = 0; sector < 60; sector++) {
            if (sector % 20 == 0) {
                sum = 31 * sum + x.end(sector / 20);
            }
            sum = 31 * sum + weights[sector];
        }
        return 31 * sum + x.time();
    }

    private static void mappedShare() {
        Shingletrack x = new Shingletrack();
        refused("38 none bad", x, NONE, x::mappedShare);
        x.bad(0, 0);
        due("38 none mapped", 0.0f, x::mappedShare);
        Disks.send(x, 0);
        x.scrub();
        due("38 one of one", 1.0f, x::mappedShare);
        x.bad(1, 0);
        x.bad(1, 1);
        due("38 one of three", 1.0f / 3.0f, x::mappedShare);
    }

    private static void meanWait() {
        Shingletrack x = new Shingletrack();
        x.request(0);
        refused("39 none served", x, NONE, x::meanWait);
        x.serve('f');
        due("39 one", 6.0, x::meanWait);
        x.request(0);
        x.serve('f');
        x.request(0);
        x.idle(1);
        x.serve('f');
        due("39 three", 66.0 / 3.0, x::meanWait);
        x.request(1);
        x.serve('f');
        due("39 four", 72.0 / 4.0, x::meanWait);
    }

    private static void isSound() {
        Shingletrack x = Disks.with(Disks.row(0, 12));
        x.shake(true);
        x.bad(0, 3);
        Disks.send(x, 30, 31, 5, 19);
        due("40 behind writing", true, x::isSound);
        x.clean(0);
        due("40 behind shaken cleaning", true, x::isSound);
        Disks.harmPlaces(x, 4, 0, 3);
        due("40 harmed", true, x::isSound);
        x.scrub();
        due("40 told lost", true, x::isSound);
        x.write(4, 4);
        x.cut();
        due("40 behind a cut", true, x::isSound);
        x.wipe();
        due("40 wiped", true, x::isSound);
    }
}
