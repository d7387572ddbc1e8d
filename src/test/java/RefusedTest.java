import java.util.ArrayList;
import java.util.LinkedHashMap;
import java.util.List;
import java.util.Map;
import java.util.NoSuchElementException;

/**
 * "A method that throws an exception changes nothing. If several exceptions apply, the one that is
 * listed first is thrown." Two disks go the same way, but one of them is asked for a call that it
 * must refuse; from then on both must give the same answers, to calls that change them, too.
 */
public final class RefusedTest {
    /** A call on any disk. */
    interface Step {
        Object on(Shingletrack x);
    }

    private static final Class<?> INDEX = IndexOutOfBoundsException.class;
    private static final Class<?> ARGUMENT = IllegalArgumentException.class;
    private static final Class<?> STATE = IllegalStateException.class;
    private static final Class<?> NONE = NoSuchElementException.class;
    private static final Class<?> LOST = UnsupportedOperationException.class;
    private static final int[] NO_SECTORS = {-1, 60, Integer.MIN_VALUE, Integer.MAX_VALUE};
    private static final int[] NO_BANDS = {-1, 3, Integer.MIN_VALUE, Integer.MAX_VALUE};
    private static final int[] NO_PLACES = {-1, 20, Integer.MIN_VALUE, Integer.MAX_VALUE};
    private static final int MOST_CALLS = 512;

    private static final List<Step> LATER = laterCalls();

    private RefusedTest() {
    }

    public static void main(String[] args) {
        for (Map.Entry<String, List<Step>> way : ways().entrySet()) {
            wrongWords(way.getKey(), way.getValue());
            wrongSectors(way.getKey(), way.getValue());
            wrongBands(way.getKey(), way.getValue());
            wrongNumbers(way.getKey(), way.getValue());
        }
        samplesAndRequests();
        shakenOrTooLow("shaken", x -> x.shock(true));
        shakenOrTooLow("too low", x -> x.heat(61));
        wordsThatAreNone();
        timeAndMeans();
        Checks.finish("RefusedTest");
    }

    // ---- two disks that go the same way ----

    private static void refused(String what, List<Step> way, Class<?> due, Step call) {
        Shingletrack asked = new Shingletrack();
        Shingletrack other = new Shingletrack();
        Checks.same(what + ": calls of one object", "true",
                String.valueOf(way.size() + LATER.size() < MOST_CALLS));
        for (Step step : way) {
            step.on(asked);
            step.on(other);
        }
        Checks.due(what, "throws." + due.getSimpleName(), () -> call.on(asked));
        for (int i = 0; i < LATER.size(); i++) {
            Step later = LATER.get(i);
            Checks.due(what + ", later call " + i, Checks.answer(() -> later.on(other)), () -> later.on(asked));
        }
    }

    /** Whether a call is refused by a disk that went a way: it is tried on one of its own. */
    private static boolean isRefused(List<Step> way, Step call) {
        Shingletrack x = new Shingletrack();
        for (Step step : way) {
            step.on(x);
        }
        return Checks.answer(() -> call.on(x)).startsWith("throws.");
    }

    private static List<Step> laterCalls() {
        List<Step> later = new ArrayList<>();
        tell(later);
        later.add(x -> x.sample(3));
        later.add(Shingletrack::guess);
        later.add(x -> x.serve('n'));
        later.add(x -> x.serve('n'));
        later.add(x -> x.request(31));
        later.add(x -> x.heat(30));
        later.add(x -> x.shock(false));
        later.add(x -> x.shake(false));
        readAll(later);
        later.add(x -> x.harm(0, 1, 1, true));
        later.add(x -> x.write(0, 99));
        later.add(x -> x.write(57, 98));
        later.add(Shingletrack::cut);
        later.add(x -> x.write(58, 97));
        later.add(Shingletrack::barrier);
        later.add(Shingletrack::checksum);
        later.add(Shingletrack::scrub);
        later.add(Shingletrack::spares);
        for (int band = 0; band < 3; band++) {
            int b = band;
            later.add(x -> x.clean(b));
        }
        later.add(x -> x.bad(0, 0));
        later.add(x -> x.bad(2, 19));
        tellSums(later);
        readAll(later);
        for (int i = 0; i < 8; i++) {
            later.add(x -> x.serve('f'));
        }
        later.add(x -> x.idle(1));
        later.add(Shingletrack::wipe);
        tellSums(later);
        return later;
    }

    private static void tell(List<Step> later) {
        for (int sector = 0; sector < 60; sector++) {
            int s = sector;
            later.add(x -> x.where(s));
        }
        for (int band = 0; band < 3; band++) {
            int b = band;
            later.add(x -> x.end(b));
            for (int index = 0; index < 20; index++) {
                int i = index;
                later.add(x -> x.isMapped(b, i));
            }
        }
        later.add(Shingletrack::buffered);
        later.add(Shingletrack::plain);
        later.add(Shingletrack::spares);
        later.add(Shingletrack::height);
        later.add(Shingletrack::heightBits);
        later.add(x -> x.takes(0));
        later.add(x -> x.takes(59));
        tellSums(later);
    }

    private static void tellSums(List<Step> later) {
        for (char what : "wrpmlc".toCharArray()) {
            later.add(x -> x.count(what));
        }
        later.add(Shingletrack::checksum);
        later.add(Shingletrack::isSound);
        later.add(Shingletrack::mappedShare);
        later.add(Shingletrack::meanWait);
        later.add(Shingletrack::time);
        later.add(Shingletrack::arm);
        later.add(Shingletrack::waited);
    }

    private static void readAll(List<Step> later) {
        for (int sector = 0; sector < 60; sector++) {
            int s = sector;
            later.add(x -> x.read(s));
        }
    }

    // ---- ways ----

    private static void send(List<Step> way, int... sectors) {
        for (int sector : sectors) {
            way.add(x -> x.write(sector, 300 * sector));
            way.add(Shingletrack::barrier);
        }
    }

    private static void harm(List<Step> way, int sector, int number, boolean isWeak) {
        for (int place = 0; place < number; place++) {
            int p = place;
            way.add(x -> x.harm(sector, p, 1 + p, isWeak));
        }
    }

    /** A bit of everything: words of all kinds, bad and mapped places, samples, requests, time. */
    private static List<Step> busyWay() {
        List<Step> way = new ArrayList<>();
        way.add(x -> x.bad(0, 0));
        way.add(x -> x.bad(0, 3));
        send(way, 0, 1, 2, 20, 21);
        way.add(Shingletrack::scrub);
        harm(way, 21, 5, true);
        way.add(Shingletrack::scrub);
        send(way, 3, 4, 1, 9, 44);
        harm(way, 2, 5, true);
        harm(way, 1, 2, false);
        harm(way, 4, 2, true);
        harm(way, 9, 3, false);
        way.add(x -> x.write(5, 50));
        way.add(x -> x.write(0, 51));
        way.add(x -> x.write(33, 52));
        way.add(x -> x.read(1));
        way.add(x -> x.sample(7));
        way.add(x -> x.sample(-20));
        way.add(x -> x.request(45));
        way.add(x -> x.request(3));
        way.add(x -> x.idle(17));
        way.add(x -> x.serve('n'));
        way.add(x -> x.heat(44));
        way.add(x -> x.shake(true));
        return way;
    }

    private static List<Step> with(List<Step> way, Step... steps) {
        List<Step> longer = new ArrayList<>(way);
        longer.addAll(List.of(steps));
        return longer;
    }

    /** The plain zone, the buffer, the samples and the requests are all full. */
    private static List<Step> fullWay() {
        List<Step> way = new ArrayList<>();
        send(way, 5, 6, 7, 25, 26, 27, 28, 45, 46, 47);
        for (int sector = 10; sector < 16; sector++) {
            int s = sector;
            way.add(x -> x.write(s, s));
        }
        for (int i = 0; i < 12; i++) {
            int number = i;
            way.add(x -> x.sample(3 * number - 20));
        }
        for (int i = 0; i < 8; i++) {
            int number = i;
            way.add(x -> x.request(7 * number));
        }
        return way;
    }

    private static Map<String, List<Step>> ways() {
        Map<String, List<Step>> ways = new LinkedHashMap<>();
        ways.put("new", List.of());
        ways.put("busy", busyWay());
        ways.put("busy and shaken", with(busyWay(), x -> x.shock(true)));
        ways.put("busy and too low", with(busyWay(), x -> x.heat(90)));
        ways.put("full", fullWay());
        ways.put("full and shaken", with(fullWay(), x -> x.shock(true), x -> x.heat(61)));
        return ways;
    }

    // ---- refused in every state, so that the first exception listed is due ----

    private static void wrongWords(String name, List<Step> way) {
        for (int value : new int[] {-1, 65536, Integer.MIN_VALUE, Integer.MAX_VALUE}) {
            refused(name + ": word " + value, way, ARGUMENT, x -> x.word(value));
        }
        for (long word : new long[] {-1, 4294967296L, Long.MIN_VALUE, Long.MAX_VALUE}) {
            refused(name + ": mend " + word, way, ARGUMENT, x -> x.mend(word, 31));
            refused(name + ": mended " + word, way, ARGUMENT, x -> x.mended(word, 31));
        }
        for (int weak : new int[] {-1, 256, Integer.MIN_VALUE, Integer.MAX_VALUE}) {
            refused(name + ": mend, weak " + weak, way, ARGUMENT, x -> x.mend(0x111, weak));
            refused(name + ": mended, weak " + weak, way, ARGUMENT, x -> x.mended(0x111, weak));
            refused(name + ": encode " + weak, way, ARGUMENT, x -> x.encode(weak, 0));
        }
        refused(name + ": mend a lost one", way, NONE, x -> x.mend(0x111, 0));
        refused(name + ": mended, a lost one", way, NONE, x -> x.mended(0, 31));
        for (int before : new int[] {-1, 2, Integer.MIN_VALUE, Integer.MAX_VALUE}) {
            refused(name + ": encode behind " + before, way, ARGUMENT, x -> x.encode(0, before));
            refused(name + ": decode behind " + before, way, ARGUMENT, x -> x.decode(0, before));
        }
        for (int cells : new int[] {-1, 65536, Integer.MIN_VALUE, Integer.MAX_VALUE}) {
            refused(name + ": decode " + cells, way, ARGUMENT, x -> x.decode(cells, 0));
        }
        refused(name + ": decode a wrong clock cell", way, NONE, x -> x.decode(0, 0));
    }

    private static void wrongSectors(String name, List<Step> way) {
        for (int sector : NO_SECTORS) {
            String what = name + ": sector " + sector + " of ";
            refused(what + "write", way, INDEX, x -> x.write(sector, 0));
            refused(what + "write, no value", way, INDEX, x -> x.write(sector, -1));
            refused(what + "read", way, INDEX, x -> x.read(sector));
            refused(what + "where", way, INDEX, x -> x.where(sector));
            refused(what + "harm", way, INDEX, x -> x.harm(sector, 0, 1, true));
            refused(what + "harm, no place", way, INDEX, x -> x.harm(sector, 8, 1, true));
            refused(what + "harm, no nibble", way, INDEX, x -> x.harm(sector, 0, 16, true));
            refused(what + "request", way, INDEX, x -> x.request(sector));
            refused(what + "takes", way, INDEX, x -> x.takes(sector));
        }
    }

    private static void wrongBands(String name, List<Step> way) {
        for (int band : NO_BANDS) {
            refused(name + ": end " + band, way, INDEX, x -> x.end(band));
            refused(name + ": clean " + band, way, INDEX, x -> x.clean(band));
            refused(name + ": bad in " + band, way, INDEX, x -> x.bad(band, 0));
            refused(name + ": mapped in " + band, way, INDEX, x -> x.isMapped(band, 0));
        }
        for (int index : NO_PLACES) {
            refused(name + ": bad at " + index, way, INDEX, x -> x.bad(0, index));
            refused(name + ": mapped at " + index, way, INDEX, x -> x.isMapped(2, index));
        }
    }

    private static void wrongNumbers(String name, List<Step> way) {
        for (int number : new int[] {Integer.MIN_VALUE, -41, 65536, Integer.MAX_VALUE}) {
            String what = name + ": " + number + " for ";
            refused(what + "sample", way, ARGUMENT, x -> x.sample(number));
            refused(what + "write", way, ARGUMENT, x -> x.write(0, number));
            refused(what + "write in the buffer", way, ARGUMENT, x -> x.write(33, number));
            refused(what + "harm's place", way, ARGUMENT, x -> x.harm(0, number, 1, true));
            refused(what + "harm's nibble", way, ARGUMENT, x -> x.harm(0, 1, number, true));
            refused(what + "harm without a word", way, ARGUMENT, x -> x.harm(59, number, 16, true));
            refused(what + "heat", way, ARGUMENT, x -> x.heat(number));
            refused(what + "idle", way, ARGUMENT, x -> x.idle(number));
        }
        refused(name + ": sample 41", way, ARGUMENT, x -> x.sample(41));
        refused(name + ": write -1", way, ARGUMENT, x -> x.write(0, -1));
        refused(name + ": harm at 8", way, ARGUMENT, x -> x.harm(0, 8, 1, true));
        refused(name + ": harm by 16", way, ARGUMENT, x -> x.harm(0, 0, 16, true));
        refused(name + ": heat -21", way, ARGUMENT, x -> x.heat(-21));
        refused(name + ": heat 91", way, ARGUMENT, x -> x.heat(91));
        refused(name + ": idle 0", way, ARGUMENT, x -> x.idle(0));
        refused(name + ": idle 1000", way, ARGUMENT, x -> x.idle(1000));
        refused(name + ": serve F", way, ARGUMENT, x -> x.serve('F'));
        refused(name + ": serve 0", way, ARGUMENT, x -> x.serve((char) 0));
        refused(name + ": count x", way, ARGUMENT, x -> x.count('x'));
        refused(name + ": count W", way, ARGUMENT, x -> x.count('W'));
    }

    // ---- refused in some states ----

    private static void samplesAndRequests() {
        refused("a thirteenth sample", fullWay(), STATE, x -> x.sample(0));
        refused("a ninth request", fullWay(), STATE, x -> x.request(0));
        refused("none waits by f", List.of(), NONE, x -> x.serve('f'));
        refused("none waits by n", List.of(), NONE, x -> x.serve('n'));
        List<Step> served = with(busyWay(), x -> x.serve('f'));
        refused("none waits any more", served, NONE, x -> x.serve('n'));
    }

    private static void shakenOrTooLow(String name, Step cause) {
        for (List<Step> way : List.of(List.<Step>of(), busyWay(), fullWay())) {
            List<Step> then = with(way, cause);
            refused(name + ": write", then, STATE, x -> x.write(59, 1));
            refused(name + ": write in the buffer", then, STATE, x -> x.write(5, 1));
            refused(name + ": barrier", then, STATE, Shingletrack::barrier);
            refused(name + ": scrub", then, STATE, Shingletrack::scrub);
            for (int band = 0; band < 3; band++) {
                int b = band;
                refused(name + ": clean " + b, then, STATE, x -> x.clean(b));
            }
        }
        List<Step> busy = with(busyWay(), cause);
        for (int sector : new int[] {1, 2, 3, 4, 9, 20, 44}) {
            refused(name + ": read " + sector, busy, STATE, x -> x.read(sector));
        }
        refused(name + ": read one told lost", busy, LOST, x -> x.read(21));
        refused(name + ": read one never written", busy, NONE, x -> x.read(59));
    }

    private static void wordsThatAreNone() {
        List<Step> busy = busyWay();
        for (int sector = 0; sector < 60; sector++) {
            int s = sector;
            boolean isInBuffer = s == 0 || s == 5 || s == 33;
            boolean isLost = s == 2 || s == 9 || s == 21;
            boolean isWhole = s == 1 || s == 3 || s == 4 || s == 20 || s == 44;
            if (isLost) {
                refused("read the lost " + s, busy, LOST, x -> x.read(s));
            } else if (!isInBuffer && !isWhole) {
                refused("read the never written " + s, busy, NONE, x -> x.read(s));
            }
            boolean hasNoWord = s == 5 || s == 33 || s == 21 || !isInBuffer && !isLost && !isWhole;
            Checks.same("harm " + s, String.valueOf(hasNoWord),
                    String.valueOf(isRefused(busy, x -> x.harm(s, 0, 1, true))));
            if (hasNoWord) {
                refused("harm " + s, busy, LOST, x -> x.harm(s, 7, 15, true));
            }
        }
    }

    private static void timeAndMeans() {
        List<Step> late = new ArrayList<>();
        for (int i = 0; i < 100; i++) {
            late.add(x -> x.idle(999));
        }
        late.add(x -> x.request(3));
        refused("idle above 99999", late, STATE, x -> x.idle(100));
        List<Step> latest = with(late, x -> x.idle(99));
        refused("idle at 99999", latest, STATE, x -> x.idle(1));
        refused("idle too long at 99999", latest, ARGUMENT, x -> x.idle(1000));
        List<Step> later = with(latest, x -> x.serve('f'));
        refused("idle behind 99999", later, STATE, x -> x.idle(1));
        refused("no bad place", fullWay(), NONE, Shingletrack::mappedShare);
        refused("none served", fullWay(), NONE, Shingletrack::meanWait);
    }
}
