import java.util.NoSuchElementException;

/** The boundary cases of "Cleaning", "Reading" and "Wiping", and of the promises 12, 17 and 18. */
public final class EdgesOfCleaningTest {
    private static final Class<?> NONE = NoSuchElementException.class;
    private static final Class<?> STATE = IllegalStateException.class;
    private static final Class<?> LOST = UnsupportedOperationException.class;

    private EdgesOfCleaningTest() {
    }

    public static void main(String[] args) {
        upToTheOldEnd();
        behindTheLastSectorInThePlainZone();
        anEmptyBand();
        theZonesEvenIfItIsLost();
        theZonesEvenIfItsOwnIsLost();
        bothMended();
        noWeakPlaceThen();
        whatIsNoneIsNone();
        aBandOfLostWords();
        thePlainZoneHasNoneOfTheBand();
        aCleaningIsCounted();
        theNewestValue();
        aWordThatIsReadStays();
        oneThatIsLostAsItIsReadStays();
        toldLostUntilANewerWordComes();
        toldLostWhileItWaits();
        whichOfSeveralExceptions();
        aWipe();
        whatAWipeLeaves();
        whatAWipeCounts();
        Checks.finish("EdgesOfCleaningTest");
    }

    private static void due(String what, Object due, Checks.Call call) {
        Checks.due(what, due, call);
    }

    private static void refused(String what, Shingletrack x, Class<?> due, Checks.Call call) {
        Checks.refused(what, x, due, call);
    }

    // ---- cleaning ----

    // "A band is written anew from its first place up to its old end"
    private static void upToTheOldEnd() {
        for (int end = 0; end <= 20; end++) {
            int e = end;
            Shingletrack x = Disks.with(Disks.row(20, 20 + end));
            due("end " + e, e, () -> x.clean(1));
            due("words written anew", 2 * e, () -> x.count('p'));
            if (end > 0) {
                Disks.send(x, 20, 19 + end);
                due("end with its last one in the zone " + e, e, () -> x.clean(1));
                due("none left in the zone", 0, x::plain);
            }
        }
    }

    // "or behind its last sector in the plain zone, if that is farther"
    private static void behindTheLastSectorInThePlainZone() {
        for (int last = 4; last <= 19; last++) {
            int l = last;
            Shingletrack x = Disks.with(40, 41, 42, 40 + last);
            due("last in the zone " + l, l + 1, () -> x.clean(2));
            due("it is in its band", 'o', () -> x.where(40 + l));
            due("nothing between", '-', () -> x.where(43));
            due("four words anew", 8, () -> x.count('p'));
        }
        Shingletrack x = Disks.with(5, 0, 1, 2, 3, 4);
        due("up to one that waits at the end", 5, () -> x.end(0));
        due("it is in the zone", 'p', () -> x.where(5));
        due("then behind that", 6, () -> x.clean(0));
        due("in its band", 'o', () -> x.where(5));
        Shingletrack y = Disks.with(0, 1, 2, 1);
        due("not behind one that is ahead of the end", 3, () -> y.clean(0));
        Shingletrack z = Disks.with(39);
        due("nor behind another band's", 0, () -> z.clean(0));
        due("nor that of the next", 0, () -> z.clean(2));
        due("but of its own", 20, () -> z.clean(1));
    }

    private static void anEmptyBand() {
        Shingletrack x = new Shingletrack();
        due("an empty band", 0, () -> x.clean(0));
        due("no words", 0, () -> x.count('p'));
        due("nothing lost", 0, () -> x.count('l'));
        due("its first place is still the end", 0, () -> x.end(0));
        Disks.send(x, 0);
        due("written then", 'o', () -> x.where(0));
    }

    // "each place gets, if the plain zone has a word for it, that, even if it is lost"
    private static void theZonesEvenIfItIsLost() {
        Shingletrack x = Disks.with(0, 1, 2, 1, 9);
        Disks.lose(x, 1);
        Disks.lose(x, 9);
        due("end", 10, () -> x.clean(0));
        due("its own, older one is gone", 'l', () -> x.where(1));
        due("one without an older one", 'l', () -> x.where(9));
        refused("no word is there", x, LOST, () -> x.harm(1, 0, 0, false));
        refused("nor there", x, LOST, () -> x.harm(9, 0, 0, false));
        refused("read", x, LOST, () -> x.read(1));
        due("both are counted", 2, () -> x.count('l'));
        due("two words anew", 7, () -> x.count('p'));
        due("none in the zone", 0, x::plain);
    }

    private static void theZonesEvenIfItsOwnIsLost() {
        Shingletrack x = Disks.with(0, 1);
        Disks.lose(x, 1);
        x.write(1, 7);
        x.barrier();
        due("end", 2, () -> x.clean(0));
        due("the zone's", 7, () -> x.read(1));
        due("its own is not told lost", 0, () -> x.count('l'));
        due("nor mended", 0, () -> x.count('m'));
        Shingletrack y = Disks.with(0);
        Disks.harmPlaces(y, 0, 0, 2);
        Disks.send(y, 0);
        y.clean(0);
        due("nor is one that could be mended", 0, () -> y.count('m'));
    }

    // "otherwise its own, both mended"
    private static void bothMended() {
        Shingletrack x = Disks.with(0, 1, 2, 1, 5);
        Disks.harmPlaces(x, 0, 6, 2);
        Disks.harmPlaces(x, 1, 3, 2);
        Disks.harmPlaces(x, 5, 7, 1);
        for (int place = 0; place < 4; place++) {
            x.harm(2, place, 15, true);
        }
        x.clean(0);
        Checks.word("its own", x.word(1000), x, 0);
        Checks.word("the zone's", x.word(1001), x, 1);
        Checks.word("its own with four weak places", x.word(1002), x, 2);
        Checks.word("behind the old end", x.word(1005), x, 5);
        due("nine places", 9, () -> x.count('m'));
    }

    // "A word on the platter has places that are weak, none as it is written."
    private static void noWeakPlaceThen() {
        Shingletrack x = Disks.with(0, 1, 1);
        for (int place = 0; place < 4; place++) {
            x.harm(0, place, 0, true);
            x.harm(1, place + 4, 0, true);
        }
        x.clean(0);
        due("weak places that are whole are not mended", 0, () -> x.count('m'));
        Disks.harmPlaces(x, 0, 3, 2);
        Disks.harmPlaces(x, 1, 3, 2);
        due("its own is not weak", 1000, () -> x.read(0));
        due("the zone's is not", 1001, () -> x.read(1));
        Shingletrack y = Disks.with(1);
        Disks.lose(y, 1);
        Disks.send(y, 1);
        due("nor in place of a weak one in the zone", 1001, () -> y.read(1));
        Disks.lose(y, 1);
        Disks.send(y, 0, 1);
        due("nor that in the band", 1001, () -> y.read(1));
    }

    // "what is none is none"
    private static void whatIsNoneIsNone() {
        Shingletrack x = Disks.with(0, 3, 19);
        for (int times = 0; times < 2; times++) {
            due("end", 20, () -> x.clean(0));
            for (int sector = 1; sector < 19; sector++) {
                int s = sector;
                due("where " + s, s == 3 ? 'o' : '-', () -> x.where(s));
                if (s != 3) {
                    refused("read " + s, x, NONE, () -> x.read(s));
                    refused("harm " + s, x, LOST, () -> x.harm(s, 0, 0, false));
                }
            }
        }
        due("three words, twice", 9, () -> x.count('p'));
        due("none is not lost", 0, () -> x.count('l'));
    }

    // "a word that is lost is none then, and told lost"
    private static void aBandOfLostWords() {
        Shingletrack x = Disks.with(Disks.row(40, 60));
        for (int sector = 40; sector < 60; sector++) {
            Disks.lose(x, sector);
        }
        due("the end stays", 20, () -> x.clean(2));
        due("twenty told lost", 20, () -> x.count('l'));
        due("none written", 20, () -> x.count('p'));
        due("again", 20, () -> x.clean(2));
        due("none is told lost again", 20, () -> x.count('l'));
        for (int sector = 40; sector < 60; sector++) {
            int s = sector;
            due("where " + s, 'l', () -> x.where(s));
        }
        due("none to scrub", 0, x::scrub);
    }

    // "Then the plain zone has none of the band."
    private static void thePlainZoneHasNoneOfTheBand() {
        Shingletrack x = Disks.with(19, 1, 21, 39, 41, 59);
        due("six", 6, x::plain);
        x.clean(1);
        due("without band 1", 4, x::plain);
        for (int sector : new int[] {1, 19, 41, 59}) {
            due("where " + sector, 'p', () -> x.where(sector));
        }
        x.clean(2);
        due("without band 2", 2, x::plain);
        x.clean(0);
        due("without any", 0, x::plain);
        for (int sector : new int[] {1, 19, 21, 39, 41, 59}) {
            due("where " + sector, 'o', () -> x.where(sector));
            due("value of " + sector, Disks.valueOf(sector), () -> x.read(sector));
        }
    }

    private static void aCleaningIsCounted() {
        Shingletrack x = Disks.with(0);
        due("none", 0, () -> x.count('c'));
        x.clean(0);
        due("one", 1, () -> x.count('c'));
        x.clean(2);
        due("an empty band, too", 2, () -> x.count('c'));
        Disks.send(x, Disks.row(21, 32));
        due("one for a full zone, too", 3, () -> x.count('c'));
        x.scrub();
        due("a scrub is none", 3, () -> x.count('c'));
    }

    // ---- reading ----

    // "that of the buffer, otherwise that of the plain zone, otherwise that of its band"
    private static void theNewestValue() {
        Shingletrack x = new Shingletrack();
        for (int value = 1; value <= 3; value++) {
            x.write(0, value);
            int v = value;
            due("value " + v, v, () -> x.read(0));
            if (value < 3) {
                x.barrier();
                due("on the platter " + v, v, () -> x.read(0));
            }
        }
        due("in the buffer", 'b', () -> x.where(0));
        x.cut();
        due("in the zone", 'p', () -> x.where(0));
        due("the zone's", 2, () -> x.read(0));
        due("reads", 6, () -> x.count('r'));
    }

    // "A word that is read stays as it is, even if it is mended"
    private static void aWordThatIsReadStays() {
        Shingletrack x = Disks.with(0, 1, 1);
        Disks.harmPlaces(x, 0, 0, 2);
        x.harm(1, 2, 9, true);
        long band = x.word(1000) ^ 0x11L;
        long zone = x.word(1001) ^ 0x900L;
        for (int times = 1; times <= 3; times++) {
            int mended = 3 * times;
            due("the band's", 1000, () -> x.read(0));
            due("the zone's", 1001, () -> x.read(1));
            due("mended each time", mended, () -> x.count('m'));
        }
        Checks.word("the band's stays", band, x, 0);
        Checks.word("the zone's stays", zone, x, 1);
        due("none written", 3, () -> x.count('p'));
    }

    // "one that is lost as it is read stays, and is not told lost yet"
    private static void oneThatIsLostAsItIsReadStays() {
        Shingletrack x = Disks.with(0, 1, 1);
        Disks.lose(x, 0);
        Disks.lose(x, 1);
        for (int times = 0; times < 3; times++) {
            refused("the band's", x, LOST, () -> x.read(0));
            refused("the zone's", x, LOST, () -> x.read(1));
        }
        due("where", 'o', () -> x.where(0));
        due("where in the zone", 'p', () -> x.where(1));
        due("none told", 0, () -> x.count('l'));
        due("no read answered", 0, () -> x.count('r'));
        Checks.word("the band's word stays", x.word(1000), x, 0);
        due("so it can be whole again", 1000, () -> x.read(0));
    }

    // "lost, also behind a cut of power, until a newer word of it comes to the platter"
    private static void toldLostUntilANewerWordComes() {
        for (int sector : new int[] {0, 19, 20, 59}) {
            Shingletrack x = new Shingletrack();
            Disks.tellLost(x, 20 * (sector / 20));
            int told = 20 * (sector / 20);
            x.cut();
            refused("behind a cut " + sector, x, LOST, () -> x.read(told));
            x.clean(told / 20);
            x.scrub();
            due("behind a cleaning and a scrub", 'l', () -> x.where(told));
            due("told once", 1, () -> x.count('l'));
            Disks.send(x, told + 1);
            due("another one's word does not count", 'l', () -> x.where(told));
            Disks.send(x, told);
            due("a newer word in the zone", 'p', () -> x.where(told));
            x.cut();
            due("is read", Disks.valueOf(told), () -> x.read(told));
        }
        Shingletrack y = Disks.with(1);
        Disks.lose(y, 1);
        y.clean(0);
        due("told lost at the end of its band", 'l', () -> y.where(1));
        y.wipe();
        Disks.send(y, 0, 1);
        due("a newer word in the band", 'o', () -> y.where(1));
    }

    // "while it waits in the buffer it has that value"
    private static void toldLostWhileItWaits() {
        Shingletrack x = new Shingletrack();
        Disks.tellLost(x, 0);
        x.write(0, 5);
        due("where", 'b', () -> x.where(0));
        due("its value", 5, () -> x.read(0));
        x.shock(true);
        due("even while shaken", 5, () -> x.read(0));
        x.shock(false);
        x.cut();
        due("lost again", 'l', () -> x.where(0));
        refused("read then", x, LOST, () -> x.read(0));
        x.write(0, 6);
        for (int sector = 31; sector < 37; sector++) {
            x.write(sector, 0);
        }
        due("pushed out of the buffer", 'p', () -> x.where(0));
        due("its newer value", 6, () -> x.read(0));
    }

    // "If several exceptions apply, the one that is listed first is thrown."
    private static void whichOfSeveralExceptions() {
        Shingletrack x = new Shingletrack();
        Disks.tellLost(x, 20);
        Disks.send(x, 0, 1, 1);
        Disks.lose(x, 0);
        Disks.lose(x, 1);
        x.shock(true);
        refused("lost in its band and shaken", x, STATE, () -> x.read(0));
        refused("lost in the zone and shaken", x, STATE, () -> x.read(1));
        refused("told lost and shaken", x, LOST, () -> x.read(20));
        refused("never written and shaken", x, NONE, () -> x.read(40));
        x.shock(false);
        x.heat(61);
        refused("lost in its band and too low", x, STATE, () -> x.read(0));
        refused("told lost and too low", x, LOST, () -> x.read(20));
        x.heat(60);
        refused("lost in its band", x, LOST, () -> x.read(0));
        refused("lost in the zone", x, LOST, () -> x.read(1));
    }

    // ---- wiping ----

    // "A wipe makes all that was ever written never written, with nothing lost"
    private static void aWipe() {
        Shingletrack x = Disks.with(Disks.both(Disks.row(0, 20), Disks.row(0, 10)));
        Disks.tellLost(x, 40);
        for (int sector = 50; sector < 56; sector++) {
            x.write(sector, 1);
        }
        due("twenty and six", 26, x::wipe);
        due("buffered", 0, x::buffered);
        due("plain", 0, x::plain);
        for (int band = 0; band < 3; band++) {
            int b = band;
            due("end " + b, 0, () -> x.end(b));
        }
        for (int sector = 0; sector < 60; sector++) {
            int s = sector;
            due("where " + s, '-', () -> x.where(s));
            refused("read " + s, x, NONE, () -> x.read(s));
            refused("harm " + s, x, LOST, () -> x.harm(s, 0, 0, false));
        }
        due("a cut has none", 0, x::cut);
        due("a barrier has none", 0, x::barrier);
        due("a scrub has none", 0, x::scrub);
        due("a cleaning has none", 0, () -> x.clean(0));
        Disks.send(x, 0);
        Disks.harmPlaces(x, 0, 0, 2);
        due("no place is weak behind it", 1000, () -> x.read(0));
        due("another wipe", 1, x::wipe);
        due("and another", 0, x::wipe);
    }

    // "bad places, spares, counters, time and requests stay"
    private static void whatAWipeLeaves() {
        Shingletrack x = new Shingletrack();
        x.bad(0, 0);
        x.bad(0, 1);
        Disks.send(x, 0);
        x.scrub();
        x.read(0);
        Disks.lose(x, 0);
        x.scrub();
        x.clean(1);
        x.request(59);
        x.request(0);
        x.idle(9);
        x.serve('f');
        x.sample(10);
        x.shake(true);
        x.shock(true);
        x.heat(33);
        int[] counts = new int[6];
        for (int i = 0; i < 6; i++) {
            counts[i] = x.count("wrpmlc".charAt(i));
        }
        int time = x.time();
        due("none had a value", 0, x::wipe);
        for (int i = 0; i < 6; i++) {
            char what = "wrpmlc".charAt(i);
            due("count " + what, counts[i], () -> x.count(what));
        }
        due("time", time, x::time);
        due("arm", 11, x::arm);
        due("mapped", true, () -> x.isMapped(0, 0));
        due("spares", 4, x::spares);
        due("bad", true, () -> x.bad(0, 1));
        due("share", 0.5f, x::mappedShare);
        due("the request that waits", 2, () -> x.request(1));
        due("served", 0, () -> x.serve('f'));
        due("samples", 2, () -> x.sample(0));
        due("shaking", true, () -> x.shake(false));
        due("the shock", true, () -> x.shock(false));
        due("heat", 33, () -> x.heat(20));
        Disks.send(x, 0, 1);
        Checks.word("the spare", x.word(1000), x, 0);
        Checks.word("the bad place", x.word(1001) ^ 0xF00F0L, x, 1);
    }

    // "Returns how many sectors had a value, those told lost aside."
    private static void whatAWipeCounts() {
        Shingletrack empty = new Shingletrack();
        due("none", 0, empty::wipe);
        Shingletrack all = Disks.with(Disks.row(0, 60));
        due("all", 60, all::wipe);
        Shingletrack x = Disks.with(0, 1, 1);
        x.write(1, 0);
        due("each once", 2, x::wipe);
        Disks.send(x, 0, 9);
        Disks.lose(x, 0);
        Disks.lose(x, 9);
        due("lost ones that were not told", 2, x::wipe);
        Disks.tellLost(x, 20);
        due("one that was told", 0, x::wipe);
        Disks.tellLost(x, 20);
        x.write(20, 4);
        due("one that was told, but waits anew", 1, x::wipe);
        x.write(20, 4);
        x.shock(true);
        due("while shaken", 1, x::wipe);
    }
}
