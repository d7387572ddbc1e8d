import java.util.Arrays;

/** Ways to a state of a disk, and what its words look like. */
final class Disks {
    private Disks() {
    }

    /** A disk with sectors that went to the platter one by one. */
    static Shingletrack with(int... sectors) {
        Shingletrack x = new Shingletrack();
        send(x, sectors);
        return x;
    }

    /** The value that send writes. */
    static int valueOf(int sector) {
        return 1000 + sector;
    }

    static void send(Shingletrack x, int... sectors) {
        for (int sector : sectors) {
            x.write(sector, valueOf(sector));
            x.barrier();
        }
    }

    static int[] row(int first, int behind) {
        int[] row = new int[behind - first];
        for (int i = 0; i < row.length; i++) {
            row[i] = first + i;
        }
        return row;
    }

    static int[] both(int[] one, int... other) {
        int[] both = Arrays.copyOf(one, one.length + other.length);
        System.arraycopy(other, 0, both, one.length, other.length);
        return both;
    }

    /** Harms so many places, from a first one on, that a word with three of them is lost. */
    static void harmPlaces(Shingletrack x, int sector, int first, int number) {
        for (int i = 0; i < number; i++) {
            x.harm(sector, (first + i) % 8, 1, false);
        }
    }

    static void lose(Shingletrack x, int sector) {
        for (int place = 0; place < 5; place++) {
            x.harm(sector, place, 0, true);
        }
    }

    /** A sector that goes to the platter, and is told lost by a scrub of its band. */
    static void tellLost(Shingletrack x, int sector) {
        send(x, sector);
        lose(x, sector);
        x.scrub();
    }

    /** The word of a sector on the platter, with no weak places any more. */
    static long wordOf(Shingletrack x, int sector) {
        long word = 0;
        for (int place = 0; place < 8; place++) {
            word |= (long) x.harm(sector, place, 0, false) << 4 * place;
        }
        return word;
    }

    static void idle(Shingletrack x, int ticks) {
        int left = ticks;
        while (left > 0) {
            int now = Math.min(left, 999);
            x.idle(now);
            left -= now;
        }
    }

    static void sample(Shingletrack x, int... samples) {
        for (int sample : samples) {
            x.sample(sample);
        }
    }
}
