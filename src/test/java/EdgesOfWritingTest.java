import java.util.NoSuchElementException;

/** The boundary cases of "Sectors" and "Writing" in the document, and of the promises 9 to 11 and 13 to 16. */
public final class EdgesOfWritingTest {
    private static final Class<?> INDEX = IndexOutOfBoundsException.class;
    private static final Class<?> ARGUMENT = IllegalArgumentException.class;
    private static final Class<?> STATE = IllegalStateException.class;
    private static final Class<?> NONE = NoSuchElementException.class;
    private static final Class<?> LOST = UnsupportedOperationException.class;
    private static final int[] NO_SECTORS = {-1, 60, -60, 120, Integer.MIN_VALUE, Integer.MAX_VALUE};
    private static final int[] NO_BANDS = {-1, 3, -3, 60, Integer.MIN_VALUE, Integer.MAX_VALUE};

    private EdgesOfWritingTest() {
    }

    public static void main(String[] args) {
        sixtySectors();
        twentyToEachBandInOrder();
        valuesFrom0To65535();
        fromTheFirstPlaceOnUpToTheEnd();
        aFullBand();
        bufferOfSix();
        oneThatIsThereStaysInItsPlace();
        aFurtherOneToAFullBuffer();
        whatThePlainZoneHasOfItIsGone();
        tenInThePlainZone();
        inPlaceOfWhatTheFullZoneHas();
        theBandWithTheMostOfLikeOnesTheLowest();
        theFirstAndTheLastPlaceCount();
        lookedAtAnewWhereItGoes();
        cleanedAheadOfIt();
        writtenInEither();
        aBarrierSendsTheFirstOneFirst();
        aBarrierThroughAFullZone();
        aCutOfPower();
        aCutLeavesTheRest();
        shakenByAShock();
        theHeadLowerThan2();
        Checks.finish("EdgesOfWritingTest");
    }

    private static void due(String what, Object due, Checks.Call call) {
        Checks.due(what, due, call);
    }

    private static void refused(String what, Shingletrack x, Class<?> due, Checks.Call call) {
        Checks.refused(what, x, due, call);
    }

    private static void state(String what, Shingletrack x, int end, int plain, int cleanings) {
        due(what + ": end of band 0", end, () -> x.end(0));
        due(what + ": in the plain zone", plain, x::plain);
        due(what + ": cleanings", cleanings, () -> x.count('c'));
    }

    // ---- sectors ----

    // "There are 60"
    private static void sixtySectors() {
        Shingletrack x = new Shingletrack();
        for (int sector : NO_SECTORS) {
            refused("write " + sector, x, INDEX, () -> x.write(sector, 0));
            refused("read " + sector, x, INDEX, () -> x.read(sector));
            refused("where " + sector, x, INDEX, () -> x.where(sector));
            refused("write a wrong value to " + sector, x, INDEX, () -> x.write(sector, 65536));
        }
        for (int sector = 0; sector < 60; sector++) {
            int s = sector;
            due("where " + s, '-', () -> x.where(s));
            refused("read " + s, x, NONE, () -> x.read(s));
            due("write " + s, Math.min(s + 1, 6), () -> x.write(s, s));
            due("read its value " + s, s, () -> x.read(s));
        }
    }

    // "20 to each of the bands 0 to 2, in order"
    private static void twentyToEachBandInOrder() {
        for (int band = 0; band < 3; band++) {
            for (int index = 0; index < 20; index++) {
                Shingletrack x = Disks.with(20 * band + index);
                int b = band;
                int sector = 20 * band + index;
                due("where " + sector, index == 0 ? 'o' : 'p', () -> x.where(sector));
                due("the end behind " + sector, index == 0 ? 1 : 0, () -> x.end(b));
                due("cleaned up to " + sector, index + 1, () -> x.clean(b));
                due("the next band", 0, () -> x.end((b + 1) % 3));
                due("the one ahead", 0, () -> x.end((b + 2) % 3));
            }
        }
        Shingletrack x = Disks.with(Disks.row(0, 60));
        for (int sector = 0; sector < 60; sector++) {
            int s = sector;
            due("all in a row: " + s, 'o', () -> x.where(s));
        }
        for (int band : NO_BANDS) {
            refused("end " + band, x, INDEX, () -> x.end(band));
            refused("clean " + band, x, INDEX, () -> x.clean(band));
        }
        for (int band = 0; band < 3; band++) {
            int b = band;
            due("end of " + b, 20, () -> x.end(b));
            due("end of " + b + ", cleaned", 20, () -> x.clean(b));
        }
    }

    // "the value": 0 to 65535
    private static void valuesFrom0To65535() {
        Shingletrack x = new Shingletrack();
        for (int value : new int[] {-1, 65536, -65536, Integer.MIN_VALUE, Integer.MAX_VALUE}) {
            refused("write " + value, x, ARGUMENT, () -> x.write(0, value));
        }
        int[] values = {0, 1, 15, 16, 32767, 32768, 65534, 65535};
        for (int i = 0; i < values.length; i++) {
            int s = i;
            x.write(s, values[s]);
            due("in the buffer " + values[s], values[s], () -> x.read(s));
            x.barrier();
            due("in the band " + values[s], values[s], () -> x.read(s));
            x.write(s, values[s] ^ 65535);
            x.barrier();
            due("in the zone not " + values[s], values[s] ^ 65535, () -> x.read(s));
        }
    }

    // "A band is written from its first place on, up to its end, which is 0 at first"
    private static void fromTheFirstPlaceOnUpToTheEnd() {
        Shingletrack x = new Shingletrack();
        state("at first", x, 0, 0, 0);
        Disks.send(x, 1);
        state("behind the end", x, 0, 1, 0);
        Disks.send(x, 0);
        state("at the end", x, 1, 1, 0);
        Disks.send(x, 0);
        state("ahead of the end", x, 1, 2, 0);
        Disks.send(x, 2);
        state("one too far", x, 1, 3, 0);
        Disks.send(x, 1);
        state("at the end again", x, 2, 2, 0);
        due("the last one of the band", 'o', () -> x.where(1));
        Disks.send(x, 1);
        due("the last one of the band again", 'p', () -> x.where(1));
    }

    // The end of a band that is full is no place of it.
    private static void aFullBand() {
        for (int band = 0; band < 3; band++) {
            int b = band;
            int first = 20 * band;
            Shingletrack x = Disks.with(Disks.row(first, first + 19));
            due("not yet full", 19, () -> x.end(b));
            Disks.send(x, first + 19);
            due("full", 20, () -> x.end(b));
            due("the last place", 'o', () -> x.where(first + 19));
            Disks.send(x, first, first + 19);
            due("the first place again", 'p', () -> x.where(first));
            due("the last place again", 'p', () -> x.where(first + 19));
            due("still full", 20, () -> x.end(b));
            due("the next band is empty", 0, () -> x.end((b + 1) % 3));
            Disks.send(x, 20 * ((b + 1) % 3));
            due("the next band begins", 1, () -> x.end((b + 1) % 3));
        }
    }

    // ---- the buffer ----

    // "the buffer, which holds 6 sectors"
    private static void bufferOfSix() {
        Shingletrack x = new Shingletrack();
        due("empty", 0, x::buffered);
        for (int number = 1; number <= 6; number++) {
            int n = number;
            due("number " + n, n, () -> x.write(10 * n - 1, n));
            due("buffered " + n, n, x::buffered);
        }
        due("none went to the platter", 0, () -> x.count('p'));
        due("a seventh", 6, () -> x.write(0, 7));
        due("one went to the platter", 1, () -> x.count('p'));
        due("still six", 6, x::buffered);
        due("the first one", 'p', () -> x.where(9));
        due("the second one", 'b', () -> x.where(19));
    }

    // "each once: one that is there gets its value in its place"
    private static void oneThatIsThereStaysInItsPlace() {
        for (int again = 0; again < 6; again++) {
            Shingletrack x = new Shingletrack();
            for (int sector = 0; sector < 6; sector++) {
                x.write(sector, sector);
            }
            int a = again;
            due("one of a full buffer", 6, () -> x.write(a, 500 + a));
            due("none goes for it", 0, () -> x.count('p'));
            for (int sector = 0; sector < 6; sector++) {
                int s = sector;
                x.write(40 + s, 1);
                due("goes in its place: " + s, 'o', () -> x.where(s));
                due("value of " + s, s == a ? 500 + s : s, () -> x.read(s));
                due("words on the platter", s + 1, () -> x.count('p'));
            }
        }
        Shingletrack y = new Shingletrack();
        due("one alone", 1, () -> y.write(0, 1));
        due("one alone again", 1, () -> y.write(0, 1));
        due("both were written", 2, () -> y.count('w'));
        due("it went once", 1, y::barrier);
        due("one word", 1, () -> y.count('p'));
    }

    // "If a further one comes to a full buffer, the first one goes to the platter ahead of that."
    private static void aFurtherOneToAFullBuffer() {
        Shingletrack x = new Shingletrack();
        for (int sector = 0; sector < 6; sector++) {
            x.write(sector, sector);
        }
        due("a further one", 6, () -> x.write(6, 6));
        due("the first one, which went, is further then", 6, () -> x.write(0, 100));
        due("so the second one went", 'o', () -> x.where(1));
        due("and the third is next", 'b', () -> x.where(2));
        due("the first one's newest value", 100, () -> x.read(0));
        due("its word is in the band", 0, () -> x.harm(0, 0, 0, false));
        x.cut();
        due("which it is then", 0, () -> x.read(0));
    }

    // ---- the plain zone ----

    // "and what the plain zone has of it is gone"
    private static void whatThePlainZoneHasOfItIsGone() {
        Shingletrack x = Disks.with(1, 1);
        state("once, in place", x, 0, 1, 0);
        x.write(0, 5);
        x.write(1, 6);
        x.barrier();
        state("gone", x, 2, 0, 0);
        due("the newer value", 6, () -> x.read(1));
        due("where", 'o', () -> x.where(1));
        x.clean(0);
        due("the older one does not come back", 6, () -> x.read(1));
        Shingletrack y = Disks.with(1);
        Disks.lose(y, 1);
        Disks.send(y, 0, 1);
        due("even if it was lost", 1001, () -> y.read(1));
        due("which was never told", 0, () -> y.count('l'));
    }

    // "The plain zone holds words for at most 10 sectors."
    private static void tenInThePlainZone() {
        Shingletrack x = new Shingletrack();
        for (int number = 1; number <= 10; number++) {
            Disks.send(x, 19 - number);
            state("number " + number, x, 0, number, 0);
        }
        Disks.send(x, 40);
        state("the end of a band needs no room", x, 0, 10, 0);
        Disks.send(x, 19);
        state("number 11", x, 20, 0, 1);
        due("which is the end of its band then", 'o', () -> x.where(19));
        Disks.send(x, Disks.row(0, 10));
        state("full again", x, 20, 10, 1);
        Disks.send(x, 10);
        state("number 11 again", x, 20, 1, 2);
        due("which is in the zone", 'p', () -> x.where(10));
    }

    // "in place of what that has of it, or behind the others; if that is full"
    private static void inPlaceOfWhatTheFullZoneHas() {
        int[] ten = Disks.row(9, 19);
        for (int sector : ten) {
            Shingletrack x = Disks.with(ten);
            x.harm(sector, 3, 0, true);
            x.write(sector, 77);
            x.barrier();
            state("in place of " + sector, x, 0, 10, 0);
            due("the newer value of " + sector, 77, () -> x.read(sector));
            Disks.harmPlaces(x, sector, 0, 2);
            due("with no weak place", 77, () -> x.read(sector));
            for (int other : ten) {
                int due = other == sector ? 77 : Disks.valueOf(other);
                due("the value of " + other, due, () -> x.read(other));
            }
        }
    }

    // "the band with the most sectors in it, of like ones the lowest, is cleaned ahead of that"
    private static void theBandWithTheMostOfLikeOnesTheLowest() {
        for (int first = 0; first <= 10; first++) {
            for (int second = 0; first + second <= 10; second++) {
                int third = 10 - first - second;
                Shingletrack x = new Shingletrack();
                Disks.send(x, Disks.row(1, 1 + first));
                Disks.send(x, Disks.row(21, 21 + second));
                Disks.send(x, Disks.row(41, 41 + third));
                String what = first + " " + second + " " + third;
                state(what + " ahead", x, 0, 10, 0);
                Disks.send(x, 59);
                int most = Math.max(first, Math.max(second, third));
                int cleaned = first == most ? 0 : second == most ? 1 : 2;
                due(what + ": band 0", cleaned == 0 ? first + 1 : 0, () -> x.end(0));
                due(what + ": band 1", cleaned == 1 ? second + 1 : 0, () -> x.end(1));
                due(what + ": band 2", cleaned == 2 ? third + 1 : 0, () -> x.end(2));
                due(what + ": in the zone", 11 - most, x::plain);
                due(what + ": cleanings", 1, () -> x.count('c'));
            }
        }
    }

    // The first and the last place of a band count as the others do.
    private static void theFirstAndTheLastPlaceCount() {
        Shingletrack x = Disks.with(20, 20, 22, 23, 24, 25, 1, 2, 3, 4, 41);
        state("five, four and one", x, 0, 10, 0);
        Disks.send(x, 59);
        due("the band with its first place is cleaned", 6, () -> x.end(1));
        state("not the lower one", x, 0, 6, 1);
        Shingletrack y = Disks.with(20, 21, 22, 38, 39, 37, 36, 1, 2, 3, 4, 20, 41);
        state("four, five and one", y, 0, 10, 0);
        Disks.send(y, 59);
        due("the band with its last place is cleaned", 20, () -> y.end(1));
        state("nor here", y, 0, 6, 1);
    }

    // "and it is looked at anew where it goes"
    private static void lookedAtAnewWhereItGoes() {
        int[] ten = Disks.row(5, 15);
        for (int sector = 0; sector < 60; sector++) {
            boolean isInZone = sector >= 5 && sector < 15;
            boolean isAtEnd = sector % 20 == 0;
            if (!isInZone && !isAtEnd) {
                Shingletrack x = Disks.with(ten);
                Disks.send(x, sector);
                int s = sector;
                state("looked at anew: " + s, x, s == 15 ? 16 : 15, s == 15 ? 0 : 1, 1);
                due("where " + s, s == 15 ? 'o' : 'p', () -> x.where(s));
                due("words", 21, () -> x.count('p'));
                due("value of " + s, Disks.valueOf(s), () -> x.read(s));
            }
        }
        Shingletrack y = Disks.with(ten);
        Disks.send(y, 0);
        state("at its end at once", y, 1, 10, 0);
    }

    // Its older word in the band can be lost as its band is cleaned ahead of it.
    private static void cleanedAheadOfIt() {
        Shingletrack x = Disks.with(Disks.both(Disks.row(0, 6), Disks.row(7, 17)));
        Disks.lose(x, 5);
        x.write(5, 500);
        due("it goes alone", 1, x::barrier);
        state("cleaned", x, 17, 1, 1);
        due("its older word was told lost", 1, () -> x.count('l'));
        due("where the newer one is", 'p', () -> x.where(5));
        due("the newer value", 500, () -> x.read(5));
        x.cut();
        due("it is lost no longer", 500, () -> x.read(5));
        due("nothing was mended", 0, () -> x.count('m'));
        due("words", 6 + 10 + 5 + 10 + 1, () -> x.count('p'));
    }

    // "A word that is written counts as written to the platter, in either."
    private static void writtenInEither() {
        Shingletrack x = new Shingletrack();
        x.write(0, 1);
        due("in the buffer", 0, () -> x.count('p'));
        x.barrier();
        due("in the band", 1, () -> x.count('p'));
        x.write(0, 2);
        x.barrier();
        due("in the zone", 2, () -> x.count('p'));
        x.write(0, 3);
        x.barrier();
        due("in place of that", 3, () -> x.count('p'));
        x.clean(0);
        due("cleaned", 4, () -> x.count('p'));
        x.clean(1);
        due("an empty band", 4, () -> x.count('p'));
        x.write(0, 3);
        x.cut();
        x.barrier();
        due("cut", 4, () -> x.count('p'));
        due("sectors written", 4, () -> x.count('w'));
    }

    // ---- barriers and cuts ----

    // "A barrier sends all of the buffer to the platter, the first one first."
    private static void aBarrierSendsTheFirstOneFirst() {
        Shingletrack x = new Shingletrack();
        due("none", 0, x::barrier);
        for (int sector = 0; sector < 6; sector++) {
            x.write(sector, 0);
        }
        due("six", 6, x::barrier);
        state("in order", x, 6, 0, 0);
        due("none any more", 0, x::barrier);
        due("none in the buffer", 0, x::buffered);

        Shingletrack y = new Shingletrack();
        for (int sector = 5; sector >= 0; sector--) {
            y.write(sector, 0);
        }
        due("six the other way", 6, y::barrier);
        state("the last one first", y, 1, 5, 0);
        due("one", 1, () -> y.write(1, 0));
        due("one went", 1, y::barrier);
        state("it follows the first", y, 2, 4, 0);
    }

    private static void aBarrierThroughAFullZone() {
        Shingletrack x = Disks.with(Disks.row(12, 20));
        for (int sector = 11; sector > 5; sector--) {
            x.write(sector, sector);
        }
        due("six", 6, x::barrier);
        state("cleaned behind the second of them", x, 20, 4, 1);
        for (int sector = 6; sector < 12; sector++) {
            int s = sector;
            due("where " + s, s < 10 ? 'p' : 'o', () -> x.where(s));
            due("value " + s, s, () -> x.read(s));
        }
    }

    // "A cut of power empties the buffer; a sector that was there alone is then as if never written."
    private static void aCutOfPower() {
        Shingletrack x = new Shingletrack();
        due("an empty buffer", 0, x::cut);
        for (int sector = 0; sector < 6; sector++) {
            x.write(sector, 0);
        }
        due("a full buffer", 6, x::cut);
        due("then an empty one", 0, x::cut);
        for (int sector = 0; sector < 6; sector++) {
            int s = sector;
            due("where " + s, '-', () -> x.where(s));
            refused("read " + s, x, NONE, () -> x.read(s));
        }
        due("a barrier has none to send", 0, x::barrier);
        due("end", 0, () -> x.end(0));
        due("the writes stay counted", 6, () -> x.count('w'));

        Disks.send(x, 0, 5);
        Disks.tellLost(x, 20);
        x.write(0, 1);
        x.write(5, 2);
        x.write(20, 3);
        due("three", 3, x::cut);
        due("the band's", 1000, () -> x.read(0));
        due("the zone's", 1005, () -> x.read(5));
        refused("the one told lost", x, LOST, () -> x.read(20));
        due("where that is", 'l', () -> x.where(20));
    }

    // It empties the buffer, and nothing else.
    private static void aCutLeavesTheRest() {
        Shingletrack x = Disks.with(0, 0, 9);
        x.sample(10);
        x.request(59);
        x.idle(3);
        x.bad(0, 0);
        x.shake(true);
        x.shock(true);
        x.heat(31);
        due("an empty buffer", 0, x::cut);
        due("samples", 2, () -> x.sample(0));
        due("requests", 2, () -> x.request(1));
        due("time", 3, x::time);
        due("bad places", true, () -> x.bad(0, 0));
        due("shaking", true, () -> x.shake(false));
        due("the shock", true, () -> x.shock(false));
        due("heat", 31, () -> x.heat(20));
        state("the platter", x, 1, 2, 0);
        due("words", 3, () -> x.count('p'));
    }

    // ---- shocks and the height of the head ----

    private static void forbidden(String what, Shingletrack x) {
        refused(what + ": write", x, STATE, () -> x.write(0, 1));
        refused(what + ": write to the buffer", x, STATE, () -> x.write(30, 1));
        refused(what + ": barrier", x, STATE, x::barrier);
        refused(what + ": read the band", x, STATE, () -> x.read(0));
        refused(what + ": read the zone", x, STATE, () -> x.read(9));
        refused(what + ": clean", x, STATE, () -> x.clean(0));
        refused(what + ": clean an empty band", x, STATE, () -> x.clean(2));
        refused(what + ": scrub", x, STATE, x::scrub);
        due(what + ": read the buffer", 7, () -> x.read(30));
        refused(what + ": read one never written", x, NONE, () -> x.read(59));
        refused(what + ": read one told lost", x, LOST, () -> x.read(40));
        refused(what + ": write, no sector", x, INDEX, () -> x.write(60, 65536));
        refused(what + ": write, no value", x, ARGUMENT, () -> x.write(59, 65536));
        refused(what + ": read, no sector", x, INDEX, () -> x.read(-1));
        refused(what + ": clean, no band", x, INDEX, () -> x.clean(3));
    }

    private static void allowed(String what, Shingletrack x) {
        due(what + ": write", 2, () -> x.write(0, 1));
        due(what + ": barrier", 2, x::barrier);
        due(what + ": read", 1, () -> x.read(0));
        due(what + ": read the zone", 1009, () -> x.read(9));
        due(what + ": clean", 10, () -> x.clean(0));
        due(what + ": scrub", 0, x::scrub);
    }

    private static Shingletrack diskForAll() {
        Shingletrack x = Disks.with(0, 9);
        Disks.tellLost(x, 40);
        x.write(30, 7);
        return x;
    }

    // "While the disk is shaken by a shock ... nothing is written, read from the platter, cleaned or scrubbed."
    private static void shakenByAShock() {
        Shingletrack x = diskForAll();
        x.shock(true);
        forbidden("shock", x);
        x.shock(true);
        forbidden("a shock in a shock", x);
        x.shock(false);
        allowed("behind the shock", x);
        Shingletrack y = diskForAll();
        y.shake(true);
        allowed("shaking alone", y);
        Shingletrack z = diskForAll();
        z.shake(true);
        z.shock(true);
        z.heat(90);
        forbidden("all of it", z);
        due("a cut is none of these", 1, z::cut);
        due("nor is a wipe", 2, z::wipe);
        refused("an empty buffer, too", z, STATE, z::barrier);
        refused("nothing to scrub, too", z, STATE, z::scrub);
    }

    // "or the head is lower than 2"
    private static void theHeadLowerThan2() {
        for (int heat = -20; heat <= 90; heat++) {
            Shingletrack x = diskForAll();
            x.heat(heat);
            if (heat <= 60) {
                allowed("heat " + heat, x);
            } else {
                forbidden("heat " + heat, x);
                x.heat(60);
                allowed("cooled from " + heat, x);
            }
        }
    }
}
