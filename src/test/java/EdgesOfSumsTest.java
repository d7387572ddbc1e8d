import java.util.NoSuchElementException;

/** The boundary cases of the promises 36 to 40, and of the 512 calls that an object is used for. */
public final class EdgesOfSumsTest {
    private static final Class<?> ARGUMENT = IllegalArgumentException.class;
    private static final Class<?> NONE = NoSuchElementException.class;
    private static final Class<?> LOST = UnsupportedOperationException.class;

    private EdgesOfSumsTest() {
    }

    public static void main(String[] args) {
        countersAlone();
        countersAtFirst();
        sectorsWritten();
        readsThatAnswered();
        placesMended();
        wordsToldLost();
        theSumAtFirst();
        theSumOfLetters();
        theSumOfEndsAndPlaces();
        theSumOfTheTime();
        theShareOfMappedPlaces();
        theMeanWait();
        soundInEachState();
        soundIfHarmedOrLost();
        fiveHundredAndTwelveCalls();
        Checks.finish("EdgesOfSumsTest");
    }

    private static void due(String what, Object due, Checks.Call call) {
        Checks.due(what, due, call);
    }

    private static void refused(String what, Shingletrack x, Class<?> due, Checks.Call call) {
        Checks.refused(what, x, due, call);
    }

    // ---- counters ----

    // "if there is no such counter"
    private static void countersAlone() {
        Shingletrack x = Disks.with(0);
        for (int what = 0; what <= 65535; what++) {
            char w = (char) what;
            boolean isCounter = "wrpmlc".indexOf(w) >= 0;
            if (!isCounter) {
                due("counter " + what, "throws.IllegalArgumentException", () -> x.count(w));
            }
        }
        for (char what : new char[] {0, 'W', 'a', 'z', (char) ('w' + 256), '\uffff'}) {
            refused("counter " + (int) what, x, ARGUMENT, () -> x.count(what));
        }
    }

    private static void countersAtFirst() {
        Shingletrack x = new Shingletrack();
        for (char what : "wrpmlc".toCharArray()) {
            due("counter " + what, 0, () -> x.count(what));
        }
    }

    // "'w' sectors written"
    private static void sectorsWritten() {
        Shingletrack x = new Shingletrack();
        x.write(0, 0);
        x.write(0, 0);
        due("each call that wrote", 2, () -> x.count('w'));
        refused("no sector", x, IndexOutOfBoundsException.class, () -> x.write(60, 0));
        refused("no value", x, ARGUMENT, () -> x.write(0, -1));
        due("and none that was refused", 2, () -> x.count('w'));
        x.barrier();
        x.clean(0);
        due("nor what goes to the platter", 2, () -> x.count('w'));
    }

    // "'r' reads that answered"
    private static void readsThatAnswered() {
        Shingletrack x = new Shingletrack();
        refused("never written", x, NONE, () -> x.read(0));
        due("none", 0, () -> x.count('r'));
        x.write(0, 7);
        x.read(0);
        due("from the buffer", 1, () -> x.count('r'));
        x.barrier();
        x.read(0);
        due("from the band", 2, () -> x.count('r'));
        Disks.send(x, 0);
        x.read(0);
        due("from the zone", 3, () -> x.count('r'));
        Disks.lose(x, 0);
        refused("lost", x, LOST, () -> x.read(0));
        x.clean(0);
        refused("told lost", x, LOST, () -> x.read(0));
        due("no more", 3, () -> x.count('r'));
        due("none was mended", 0, () -> x.count('m'));
    }

    // "'m' places mended as words were read with an answer, cleaned or scrubbed"
    private static void placesMended() {
        Shingletrack x = Disks.with(0, 20);
        x.mend(x.word(5) ^ 1, 0);
        x.mended(x.word(5) ^ 1, 0);
        due("words of their own are none of the disk's", 0, () -> x.count('m'));
        Disks.harmPlaces(x, 0, 0, 2);
        x.read(0);
        due("as read", 2, () -> x.count('m'));
        x.write(0, 3);
        x.read(0);
        due("not as read from the buffer", 2, () -> x.count('m'));
        x.cut();
        x.harm(0, 7, 0, true);
        refused("lost", x, LOST, () -> x.read(0));
        due("not without an answer", 2, () -> x.count('m'));
        x.harm(0, 7, 0, false);
        x.clean(0);
        due("as cleaned", 4, () -> x.count('m'));
        Disks.harmPlaces(x, 20, 7, 1);
        x.scrub();
        due("as scrubbed", 5, () -> x.count('m'));
        Disks.lose(x, 20);
        Disks.harmPlaces(x, 20, 0, 2);
        x.scrub();
        due("not as told lost", 5, () -> x.count('m'));
    }

    // "'l' words told lost"
    private static void wordsToldLost() {
        Shingletrack x = Disks.with(0, 1, 1);
        Disks.lose(x, 0);
        Disks.lose(x, 1);
        due("not yet", 0, () -> x.count('l'));
        x.scrub();
        due("as scrubbed", 1, () -> x.count('l'));
        x.clean(0);
        due("as cleaned", 2, () -> x.count('l'));
        x.wipe();
        due("they stay behind a wipe", 2, () -> x.count('l'));
    }

    // ---- sums ----

    private static int weight(long word) {
        int weight = 0;
        for (int place = 0; place < 8; place++) {
            weight += (int) (word >> 4 * place & 15) * (place + 1);
        }
        return weight;
    }

    /** The sum of a disk by its letters, ends and weights of places. */
    private static long sumOf(String letters, int[] ends, int[] weights, int time) {
        long sum = 7;
        for (int sector = 0; sector < 60; sector++) {
            sum = 31 * sum + (sector < letters.length() ? letters.charAt(sector) : '-');
        }
        for (int band = 0; band < 3; band++) {
            sum = 31 * sum + ends[band];
            for (int index = 0; index < 20; index++) {
                int sector = 20 * band + index;
                sum = 31 * sum + (sector < weights.length ? weights[sector] : 0);
            }
        }
        return 31 * sum + time;
    }

    private static void sum(String what, Shingletrack x, String letters, int[] ends, int... weights) {
        due("the sum " + what, sumOf(letters, ends, weights, x.time()), x::checksum);
        due("the sum again " + what, sumOf(letters, ends, weights, x.time()), x::checksum);
    }

    private static int[] ends(int first, int second, int third) {
        return new int[] {first, second, third};
    }

    private static void theSumAtFirst() {
        sum("at first", new Shingletrack(), "", ends(0, 0, 0));
    }

    // "the letter of where it is as a number"
    private static void theSumOfLetters() {
        Shingletrack x = new Shingletrack();
        x.write(0, 0);
        sum("of b", x, "b", ends(0, 0, 0));
        x.barrier();
        sum("of o", x, "o", ends(1, 0, 0));
        x.write(0, 0);
        x.barrier();
        sum("of p", x, "p", ends(1, 0, 0));
        Disks.lose(x, 0);
        sum("of p that is lost", x, "p", ends(1, 0, 0));
        x.clean(0);
        sum("of l", x, "l", ends(1, 0, 0));
        x.write(0, 9);
        x.write(2, 9);
        sum("of b that was told lost", x, "b-b", ends(1, 0, 0));
        x.cut();
        sum("of l behind a cut", x, "l", ends(1, 0, 0));
        x.wipe();
        sum("of a wiped one", x, "", ends(0, 0, 0));
    }

    // "plus its nibbles, each times 1 more than its place, summed up, 0 without a word"
    private static void theSumOfEndsAndPlaces() {
        Shingletrack x = new Shingletrack();
        x.write(0, 65535);
        x.write(1, 1);
        x.write(3, 5);
        x.barrier();
        int first = weight(x.word(65535));
        int second = weight(x.word(1));
        sum("of the bands' words alone", x, "oo-p", ends(2, 0, 0), first, second);
        x.harm(0, 7, 15, true);
        int harmed = weight(x.word(65535) ^ 0xF0000000L);
        sum("of a harmed one", x, "oo-p", ends(2, 0, 0), harmed, second);
        x.harm(0, 7, 15, false);
        x.clean(0);
        sum("of a cleaned one", x, "oo-o", ends(4, 0, 0), first, second, 0, weight(x.word(5)));
        x.write(0, 0);
        x.barrier();
        sum("with its own below the zone's", x, "po-o", ends(4, 0, 0), first, second, 0, weight(x.word(5)));

        Shingletrack y = Disks.with(Disks.row(0, 60));
        int[] weights = new int[60];
        for (int sector = 0; sector < 60; sector++) {
            weights[sector] = weight(y.word(Disks.valueOf(sector)));
        }
        sum("of all places", y, "o".repeat(60), ends(20, 20, 20), weights);
    }

    // "then 31 times itself plus the time"
    private static void theSumOfTheTime() {
        Shingletrack x = new Shingletrack();
        long atFirst = x.checksum();
        Disks.idle(x, 1);
        due("one tick", atFirst + 1, x::checksum);
        Disks.idle(x, 99998);
        due("99999 ticks", atFirst + 99999, x::checksum);
        x.request(3);
        due("a request is none of it", atFirst + 99999, x::checksum);
        x.serve('f');
        due("the ticks of serving", atFirst + 100014, x::checksum);
        x.bad(0, 0);
        x.shake(true);
        x.sample(4);
        x.heat(50);
        due("nor are these", atFirst + 100014, x::checksum);
    }

    // "Returns their number divided by that of all bad ones", "if there are none"
    private static void theShareOfMappedPlaces() {
        Shingletrack x = new Shingletrack();
        refused("none", x, NONE, x::mappedShare);
        for (int index = 0; index < 5; index++) {
            x.bad(0, index);
        }
        due("none of five", 0.0f, x::mappedShare);
        Disks.send(x, Disks.row(0, 5));
        x.scrub();
        due("five of five", 1.0f, x::mappedShare);
        for (int sector = 5; sector < 60; sector++) {
            int all = sector + 1;
            x.bad(sector / 20, sector % 20);
            due("five of " + all, 5.0f / (float) all, x::mappedShare);
        }
        x.wipe();
        due("behind a wipe", 5.0f / 60.0f, x::mappedShare);
    }

    // "Returns the ticks divided by their number", "if none was served"
    private static void theMeanWait() {
        Shingletrack x = new Shingletrack();
        refused("none", x, NONE, x::meanWait);
        x.request(0);
        x.idle(3);
        refused("one that waits", x, NONE, x::meanWait);
        x.serve('n');
        due("one", 36.0, x::meanWait);
        x.request(1);
        due("one that waits is none of them", 36.0, x::meanWait);
        x.serve('n');
        due("two", 42.0 / 2.0, x::meanWait);
        x.request(3);
        x.serve('n');
        due("three", 54.0 / 3.0, x::meanWait);
        x.request(0);
        x.serve('n');
        due("four", (54.0 + 12.0) / 4.0, x::meanWait);
        for (int i = 0; i < 3; i++) {
            x.request(0);
            x.serve('n');
        }
        due("seven", 156.0 / 7.0, x::meanWait);
        x.wipe();
        due("behind a wipe", 156.0 / 7.0, x::meanWait);
    }

    // ---- soundness ----

    private static void sound(String what, Shingletrack x) {
        due("sound " + what, true, x::isSound);
    }

    private static void soundInEachState() {
        Shingletrack x = new Shingletrack();
        sound("at first", x);
        for (int sector = 0; sector < 6; sector++) {
            x.write(19 - sector, sector);
        }
        sound("with a full buffer", x);
        x.barrier();
        sound("behind a barrier", x);
        Disks.send(x, 0, 1, 2, 21, 22, 23, 24);
        due("the plain zone", 10, x::plain);
        sound("with a full plain zone", x);
        Disks.send(x, 25, 26);
        due("the plain zone then", 6, x::plain);
        sound("behind a cleaning for a full zone", x);
        for (int index = 0; index < 20; index++) {
            x.bad(0, index);
        }
        x.shake(true);
        x.clean(0);
        sound("behind shaking in bad places", x);
        x.scrub();
        sound("behind a scrub without spares enough", x);
        x.write(0, 5);
        x.cut();
        sound("behind a cut", x);
        x.shock(true);
        x.heat(90);
        sound("shaken", x);
        x.wipe();
        sound("wiped", x);
    }

    // "if it is not harmed or lost"
    private static void soundIfHarmedOrLost() {
        Shingletrack x = Disks.with(0, 1, 2, 1);
        Disks.harmPlaces(x, 0, 0, 2);
        sound("with one that can be mended", x);
        Disks.lose(x, 1);
        sound("with a lost one in the zone", x);
        Disks.harmPlaces(x, 2, 0, 3);
        sound("with a lost one in the band", x);
        x.clean(0);
        sound("with two told lost", x);
        x.write(1, 4);
        sound("with one that waits anew", x);
        x.cut();
        sound("with one that is lost again", x);
        Disks.send(x, 1);
        sound("with a newer word", x);

        Shingletrack y = Disks.with(0);
        long other = y.word(1000) ^ y.word(1);
        for (int place = 4; place < 7; place++) {
            y.harm(0, place, (int) (other >> 4 * place & 15) ^ (int) (y.word(1000) >> 4 * place & 15), false);
        }
        due("three places make it another's", 1001, () -> y.read(0));
        sound("which is harm", y);
        y.scrub();
        sound("also as it is scrubbed", y);
        Disks.send(y, 0);
        sound("and behind a newer word", y);
    }

    // ---- the whole ----

    // "An object is used for at most 512 calls after it has been made"
    private static void fiveHundredAndTwelveCalls() {
        Shingletrack x = new Shingletrack();
        for (int call = 1; call <= 511; call++) {
            x.write(call * 7 % 60, call);
        }
        due("call 512", 511, () -> x.count('w'));
        Shingletrack y = new Shingletrack();
        for (int call = 1; call <= 255; call++) {
            y.request(59 * (call % 2));
            y.serve('n');
        }
        due("call 511", y.time(), y::waited);
        Shingletrack z = new Shingletrack();
        for (int call = 1; call <= 511; call++) {
            z.clean(call % 3);
        }
        due("call 512 again", 511, () -> z.count('c'));
    }
}
