/** The boundary cases of "Places", "Scrubbing" and "Heat", and of the promises 19 to 28. */
public final class EdgesOfCareTest {
    private static final Class<?> INDEX = IndexOutOfBoundsException.class;
    private static final Class<?> ARGUMENT = IllegalArgumentException.class;
    private static final Class<?> LOST = UnsupportedOperationException.class;
    private static final int[] NO_BANDS = {-1, 3, 60, Integer.MIN_VALUE, Integer.MAX_VALUE};
    private static final int[] NO_PLACES = {-1, 20, 59, Integer.MIN_VALUE, Integer.MAX_VALUE};

    private EdgesOfCareTest() {
    }

    public static void main(String[] args) {
        placesOfBands();
        nibblesAtTheIndexAnd3MoreModulo8();
        badAsAWordIsWrittenThere();
        badIsNothingToThePlainZone();
        atMost5PlacesAreMapped();
        sparesByNumbers();
        sparesAreGood();
        noSpareForOneThatIsMapped();
        thePlaceWhoseIndexIs5Less();
        ifItHasAWord();
        shakingInEachBand();
        cleaningAsWell();
        thePlainZoneIsNeverHarmedSo();
        shakingInABadPlace();
        nothingToScrub();
        scrubbedOneByOne();
        scrubbedAndLost();
        lostButInThePlainZone();
        wholeButWeak();
        withNoWeakPlaces();
        whichHarmsNobody();
        mappedAheadOfThat();
        noSpareIsLeft();
        placesAndNibblesOfHarm();
        harmInThePlainZoneOrElseInTheBand();
        nothingToHarm();
        weakThenOrNot();
        shakeAndShockTellWhatWas();
        heatFromMinus20To90();
        heights();
        Checks.finish("EdgesOfCareTest");
    }

    private static void due(String what, Object due, Checks.Call call) {
        Checks.due(what, due, call);
    }

    private static void refused(String what, Shingletrack x, Class<?> due, Checks.Call call) {
        Checks.refused(what, x, due, call);
    }

    private static long sent(Shingletrack x, int sector) {
        return x.word(Disks.valueOf(sector));
    }

    private static long turnedByBadPlace(int index) {
        return 15L << 4 * (index % 8) | 15L << 4 * ((index + 3) % 8);
    }

    // ---- bad places and spares ----

    // "the place in it, 0 to 19"
    private static void placesOfBands() {
        Shingletrack x = new Shingletrack();
        for (int band = 0; band < 3; band++) {
            for (int index = 0; index < 20; index++) {
                int b = band;
                int i = index;
                due("not mapped " + b + " " + i, false, () -> x.isMapped(b, i));
                due("was not bad " + b + " " + i, false, () -> x.bad(b, i));
                due("was bad " + b + " " + i, true, () -> x.bad(b, i));
                due("is not mapped by that " + b + " " + i, false, () -> x.isMapped(b, i));
            }
        }
        due("share of sixty", 0.0f, x::mappedShare);
        for (int band : NO_BANDS) {
            refused("bad in band " + band, x, INDEX, () -> x.bad(band, 0));
            refused("mapped in band " + band, x, INDEX, () -> x.isMapped(band, 0));
        }
        for (int index : NO_PLACES) {
            refused("bad at " + index, x, INDEX, () -> x.bad(0, index));
            refused("mapped at " + index, x, INDEX, () -> x.isMapped(2, index));
            refused("bad nowhere " + index, x, INDEX, () -> x.bad(index, index));
        }
    }

    // "its nibbles at the index modulo 8 and 3 more modulo 8 are turned by 15"
    private static void nibblesAtTheIndexAnd3MoreModulo8() {
        for (int band = 0; band < 3; band++) {
            Shingletrack x = new Shingletrack();
            int first = 20 * band;
            for (int index = 0; index < 20; index++) {
                x.bad(band, index);
            }
            Disks.send(x, Disks.row(first, first + 20));
            for (int index = 0; index < 20; index++) {
                int sector = first + index;
                due("mended as read " + sector, Disks.valueOf(sector), () -> x.read(sector));
                due("two places each", 2 * (index + 1), () -> x.count('m'));
                Checks.word("place " + index, sent(x, sector) ^ turnedByBadPlace(index), x, sector);
            }
        }
        Shingletrack y = new Shingletrack();
        y.bad(0, 5);
        Disks.send(y, Disks.row(0, 6));
        Checks.word("index 5 turns the places 5 and 0", y.word(1005) ^ 0xF0000FL, y, 5);
    }

    // "as a word is written there": neither ahead of that, nor in the places beside it
    private static void badAsAWordIsWrittenThere() {
        Shingletrack x = Disks.with(0, 1, 2);
        x.bad(0, 1);
        Checks.word("a word that is there", sent(x, 1), x, 1);
        due("end", 3, () -> x.clean(0));
        Checks.word("the one beside it", sent(x, 0), x, 0);
        Checks.word("as it is cleaned", sent(x, 1) ^ turnedByBadPlace(1), x, 1);
        Checks.word("the other beside it", sent(x, 2), x, 2);
        due("cleaned again", 3, () -> x.clean(0));
        due("it is mended by that", 2, () -> x.count('m'));
        Checks.word("and turned anew", sent(x, 1) ^ turnedByBadPlace(1), x, 1);
        Disks.harmPlaces(x, 1, 6, 1);
        refused("one place more is too much", x, LOST, () -> x.read(1));
    }

    private static void badIsNothingToThePlainZone() {
        Shingletrack x = new Shingletrack();
        x.bad(0, 0);
        x.bad(0, 7);
        Disks.send(x, 7, 0, 0);
        Checks.word("the zone's at a bad place", sent(x, 7), x, 7);
        Checks.word("the zone's of one in its band", sent(x, 0), x, 0);
        due("none is mended", 1007, () -> x.read(7));
        due("none", 0, () -> x.count('m'));
    }

    private static Shingletrack badInARow(int first, int number) {
        Shingletrack x = new Shingletrack();
        for (int i = 0; i < number; i++) {
            x.bad(first / 20, first % 20 + i);
        }
        Disks.send(x, Disks.row(first, first + number));
        return x;
    }

    // "At most 5 places are mapped to spares"
    private static void atMost5PlacesAreMapped() {
        for (int number = 0; number <= 20; number++) {
            Shingletrack x = badInARow(20, number);
            int n = number;
            due("none ahead of a scrub", 5, x::spares);
            due("all are mended " + n, n, x::scrub);
            due("spares behind " + n, Math.max(0, 5 - n), x::spares);
            for (int index = 0; index < 20; index++) {
                int i = index;
                due("mapped " + i + " of " + n, i < n && i < 5, () -> x.isMapped(1, i));
            }
            due("those without a spare are turned anew " + n, Math.max(0, n - 5), x::scrub);
            due("no more spares", Math.max(0, 5 - n), x::spares);
        }
    }

    // "Scrubbing goes through all places of bands, by numbers"
    private static void sparesByNumbers() {
        Shingletrack x = new Shingletrack();
        for (int sector : new int[] {41, 40, 21, 20, 1, 0}) {
            x.bad(sector / 20, sector % 20);
        }
        Disks.send(x, 40, 41, 20, 21, 0, 1);
        due("six", 6, x::scrub);
        for (int sector : new int[] {0, 1, 20, 21, 40, 41}) {
            due("mapped " + sector, sector != 41, () -> x.isMapped(sector / 20, sector % 20));
        }
        due("five of six", 5.0f / 6.0f, x::mappedShare);
    }

    // "spares, which are good"
    private static void sparesAreGood() {
        Shingletrack x = badInARow(0, 1);
        x.scrub();
        Checks.word("whole as it is scrubbed", sent(x, 0), x, 0);
        x.clean(0);
        Checks.word("whole as it is cleaned", sent(x, 0), x, 0);
        due("to make it bad again is nothing to the spare", true, () -> x.bad(0, 0));
        x.clean(0);
        Checks.word("whole again", sent(x, 0), x, 0);
        x.wipe();
        Disks.send(x, 0);
        Checks.word("whole behind a wipe", sent(x, 0), x, 0);
        due("two places in all", 2, () -> x.count('m'));
    }

    private static void noSpareForOneThatIsMapped() {
        Shingletrack x = badInARow(0, 1);
        for (int times = 0; times < 7; times++) {
            due("mended", 1, x::scrub);
            due("one spare alone", 4, x::spares);
            Disks.harmPlaces(x, 0, times % 8, 1);
        }
        due("one of one", 1.0f, x::mappedShare);
    }

    // ---- shaking ----

    // "the place whose index is 5 less, if it has a word, has its nibble at that lesser index modulo 8 turned by 1"
    private static void thePlaceWhoseIndexIs5Less() {
        for (int shaken = 0; shaken < 20; shaken++) {
            Shingletrack x = Disks.with(Disks.row(20, 20 + shaken));
            x.shake(true);
            Disks.send(x, 20 + shaken);
            x.shake(false);
            Disks.send(x, Disks.row(21 + shaken, 40));
            for (int index = 0; index < 20; index++) {
                long by = index == shaken - 5 ? 1L << 4 * (index % 8) : 0;
                Checks.word(shaken + " harms " + index, sent(x, 20 + index) ^ by, x, 20 + index);
            }
        }
    }

    // "if it has a word"
    private static void ifItHasAWord() {
        Shingletrack x = Disks.with(1, 6, 9);
        x.shake(true);
        x.clean(0);
        Checks.word("5 less than 6", sent(x, 1) ^ 0x10, x, 1);
        Checks.word("none harms it", sent(x, 6), x, 6);
        Checks.word("none at 5 less", sent(x, 9), x, 9);
        due("none is still none", '-', () -> x.where(4));
        refused("it has no word", x, LOST, () -> x.harm(4, 0, 0, false));
        Shingletrack y = Disks.with(Disks.row(0, 5));
        Disks.lose(y, 0);
        y.scrub();
        y.shake(true);
        Disks.send(y, 5);
        due("a lost one has none", 'l', () -> y.where(0));
        refused("nor is there one then", y, LOST, () -> y.harm(0, 0, 0, false));
    }

    private static void shakingInEachBand() {
        Shingletrack x = new Shingletrack();
        x.shake(true);
        Disks.send(x, Disks.row(0, 60));
        for (int sector = 0; sector < 60; sector++) {
            int index = sector % 20;
            long by = index < 15 ? 1L << 4 * (index % 8) : 0;
            Checks.word("in a row " + sector, sent(x, sector) ^ by, x, sector);
        }
    }

    // "as a word is written to a band, cleaning as well"
    private static void cleaningAsWell() {
        Shingletrack x = Disks.with(Disks.row(0, 20));
        x.shake(true);
        for (int times = 0; times < 3; times++) {
            x.clean(0);
            due("those of the cleaning before are mended", 15 * times, () -> x.count('m'));
        }
        for (int sector = 0; sector < 20; sector++) {
            long by = sector < 15 ? 1L << 4 * (sector % 8) : 0;
            Checks.word("cleaned " + sector, sent(x, sector) ^ by, x, sector);
        }
        x.clean(1);
        x.clean(2);
        due("other bands harm none of it", 45, () -> x.count('m') + 15);
    }

    // "Words of the plain zone are never harmed so."
    private static void thePlainZoneIsNeverHarmedSo() {
        Shingletrack x = Disks.with(Disks.row(0, 5));
        Disks.send(x, 0);
        x.shake(true);
        Disks.send(x, 9);
        Checks.word("none is harmed as one comes to the zone", sent(x, 4), x, 4);
        Disks.send(x, 5);
        Checks.word("the zone's word", sent(x, 0), x, 0);
        x.clean(0);
        x.shake(false);
        Checks.word("written to the band and harmed there", sent(x, 0) ^ 1, x, 0);
        Shingletrack y = Disks.with(Disks.row(0, 5));
        Disks.send(y, 0);
        y.shake(true);
        Disks.send(y, 5);
        Disks.lose(y, 0);
        due("the band's word is harmed below the zone's", 1, y::scrub);
        due("at one place", 1, () -> y.count('m'));
    }

    private static void shakingInABadPlace() {
        Shingletrack x = badInARow(0, 5);
        x.shake(true);
        Disks.send(x, 5);
        Checks.word("turned by 15 and by 1", sent(x, 0) ^ 0xF00EL, x, 0);
        due("which can be mended", 1000, () -> x.read(0));
        due("sound", true, x::isSound);
    }

    // ---- scrubbing ----

    private static void nothingToScrub() {
        Shingletrack x = new Shingletrack();
        due("nothing", 0, x::scrub);
        Disks.send(x, 1);
        Disks.harmPlaces(x, 1, 0, 2);
        due("one in the zone", 0, x::scrub);
        Checks.word("which stays", sent(x, 1) ^ 0x11, x, 1);
        x.write(40, 1);
        due("one in the buffer", 0, x::scrub);
        due("no word is written", 1, () -> x.count('p'));
    }

    private static void scrubbedOneByOne() {
        Shingletrack x = Disks.with(Disks.row(0, 60));
        due("all whole", 0, x::scrub);
        for (int sector = 0; sector < 60; sector++) {
            Disks.harmPlaces(x, sector, sector % 8, 1 + sector % 2);
        }
        due("all", 60, x::scrub);
        due("their places", 90, () -> x.count('m'));
        due("their words", 120, () -> x.count('p'));
        due("all whole again", 0, x::scrub);
        for (int sector : new int[] {0, 19, 20, 39, 40, 59}) {
            Checks.word("written anew " + sector, sent(x, sector), x, sector);
        }
        due("the end stays", 20, () -> x.end(2));
    }

    // "a word that is lost is none then, and told lost"
    private static void scrubbedAndLost() {
        Shingletrack x = Disks.with(Disks.row(20, 40));
        for (int sector : new int[] {20, 30, 39}) {
            Disks.lose(x, sector);
        }
        due("none is mended", 0, x::scrub);
        due("three told lost", 3, () -> x.count('l'));
        due("again", 0, x::scrub);
        due("still three", 3, () -> x.count('l'));
        due("the end stays", 20, () -> x.end(1));
        due("the last one", 'l', () -> x.where(39));
        refused("no word", x, LOST, () -> x.harm(39, 0, 0, false));
        due("no word written", 20, () -> x.count('p'));
    }

    // "which is counted in any case, but its sector is not lost if the plain zone has a word of it"
    private static void lostButInThePlainZone() {
        Shingletrack x = Disks.with(0, 1);
        Disks.lose(x, 0);
        Disks.lose(x, 1);
        x.write(0, 5);
        x.barrier();
        x.write(1, 6);
        due("none mended", 0, x::scrub);
        due("both counted", 2, () -> x.count('l'));
        due("the zone has one", 5, () -> x.read(0));
        due("the buffer has the other", 'b', () -> x.where(1));
        x.cut();
        due("which is lost behind a cut", 'l', () -> x.where(1));
        due("the zone's is not", 'p', () -> x.where(0));
        x.clean(0);
        due("nor is it as it is cleaned", 5, () -> x.read(0));
        due("no more are told", 2, () -> x.count('l'));
        Disks.send(x, 0);
        Disks.lose(x, 0);
        x.scrub();
        due("a lost one in the zone is not scrubbed", 'p', () -> x.where(0));
    }

    // "one that is mended, some nibble of it being otherwise"
    private static void wholeButWeak() {
        Shingletrack x = Disks.with(0);
        for (int place = 0; place < 3; place++) {
            x.harm(0, place, 0, true);
        }
        due("no nibble is otherwise", 0, x::scrub);
        due("no word is written", 1, () -> x.count('p'));
        x.harm(0, 3, 1, false);
        refused("its places are still weak", x, LOST, () -> x.read(0));
        x.harm(0, 3, 1, true);
        x.harm(0, 4, 0, true);
        due("five weak places", 0, x::scrub);
        due("lost, though whole", 'l', () -> x.where(0));
        due("and told", 1, () -> x.count('l'));
    }

    // "is written anew in its place, with no weak places"
    private static void withNoWeakPlaces() {
        Shingletrack x = Disks.with(0);
        for (int place = 0; place < 4; place++) {
            x.harm(0, place, place, true);
        }
        due("mended", 1, x::scrub);
        due("three places", 3, () -> x.count('m'));
        Disks.harmPlaces(x, 0, 3, 2);
        due("none of them is weak", 1000, () -> x.read(0));
    }

    // "which harms nobody"
    private static void whichHarmsNobody() {
        Shingletrack x = Disks.with(Disks.row(0, 20));
        x.shake(true);
        for (int sector = 5; sector < 20; sector++) {
            Disks.harmPlaces(x, sector, 0, 1);
        }
        due("fifteen", 15, x::scrub);
        for (int sector = 0; sector < 20; sector++) {
            Checks.word("whole " + sector, sent(x, sector), x, sector);
        }
    }

    // "if the place is bad, and a spare is left, it is mapped to that ahead of it"
    private static void mappedAheadOfThat() {
        Shingletrack x = badInARow(0, 1);
        due("mended", 1, x::scrub);
        Checks.word("not turned", sent(x, 0), x, 0);
        due("so none is left to mend", 0, x::scrub);

        Shingletrack y = Disks.with(0, 1, 2);
        y.bad(0, 0);
        y.bad(0, 1);
        y.bad(0, 2);
        Disks.harmPlaces(y, 1, 4, 1);
        Disks.lose(y, 2);
        due("a whole one, a mended one, a lost one", 1, y::scrub);
        due("whole", false, () -> y.isMapped(0, 0));
        due("mended", true, () -> y.isMapped(0, 1));
        due("lost", false, () -> y.isMapped(0, 2));
        due("one of three", 1.0f / 3.0f, y::mappedShare);
    }

    private static void noSpareIsLeft() {
        Shingletrack x = badInARow(0, 6);
        x.scrub();
        Checks.word("the fifth has the last spare", sent(x, 4), x, 4);
        Checks.word("the sixth has none, and is turned", sent(x, 5) ^ turnedByBadPlace(5), x, 5);
        due("mended each time", 1, x::scrub);
        due("never mapped", false, () -> x.isMapped(0, 5));
        due("none left", 0, x::spares);
        due("still to be read", 1005, () -> x.read(5));
    }

    // ---- harm ----

    // "the place of the word, 0 to 7", "by what it is turned, 0 to 15"
    private static void placesAndNibblesOfHarm() {
        for (int sector : new int[] {0, 59}) {
            Shingletrack x = Disks.with(sector);
            for (int place = 0; place < 8; place++) {
                int nibble = (int) (sent(x, sector) >> 4 * place & 15);
                for (int by = 0; by < 16; by++) {
                    int p = place;
                    int b = by;
                    due("turned by " + b, nibble ^ b, () -> x.harm(sector, p, b, false));
                    due("and back", nibble, () -> x.harm(sector, p, b, false));
                }
            }
            for (int wrong : new int[] {-1, 16, 31, Integer.MIN_VALUE, Integer.MAX_VALUE}) {
                refused("harm by " + wrong, x, ARGUMENT, () -> x.harm(sector, 0, wrong, true));
            }
            for (int wrong : new int[] {-1, 8, 15, Integer.MIN_VALUE, Integer.MAX_VALUE}) {
                refused("harm at " + wrong, x, ARGUMENT, () -> x.harm(sector, wrong, 0, true));
            }
            for (int wrong : new int[] {-1, 60, Integer.MIN_VALUE, Integer.MAX_VALUE}) {
                refused("harm " + wrong, x, INDEX, () -> x.harm(wrong, 0, 0, true));
                refused("harm all wrong", x, INDEX, () -> x.harm(wrong, 8, 16, true));
            }
        }
    }

    // "Harms the word of a sector in the plain zone, or else in its band."
    private static void harmInThePlainZoneOrElseInTheBand() {
        Shingletrack x = Disks.with(0, 0);
        Disks.harmPlaces(x, 0, 0, 3);
        due("not the band's", 0, x::scrub);
        due("which is not lost", 0, () -> x.count('l'));
        refused("the zone's is", x, LOST, () -> x.read(0));
        x.write(0, 4);
        Disks.harmPlaces(x, 0, 3, 2);
        due("not the buffer's", 4, () -> x.read(0));
        x.barrier();
        due("nor what goes to the platter then", 4, () -> x.read(0));
    }

    // "if it has no word there"
    private static void nothingToHarm() {
        Shingletrack x = new Shingletrack();
        refused("never written", x, LOST, () -> x.harm(0, 0, 0, false));
        refused("never written, by 16", x, ARGUMENT, () -> x.harm(0, 0, 16, false));
        refused("never written, place -1", x, ARGUMENT, () -> x.harm(0, -1, 0, false));
        x.write(0, 1);
        refused("in the buffer alone", x, LOST, () -> x.harm(0, 7, 15, true));
        x.barrier();
        due("in its band", 1, () -> x.harm(0, 0, 0, true));
        Disks.lose(x, 0);
        due("lost, but not told", 1, () -> x.harm(0, 0, 0, true));
        x.scrub();
        refused("told lost", x, LOST, () -> x.harm(0, 0, 0, false));
        x.write(0, 1);
        refused("told lost, but in the buffer", x, LOST, () -> x.harm(0, 0, 0, false));
        x.barrier();
        due("in the zone", 1, () -> x.harm(0, 0, 0, false));
    }

    // "whether it is weak then"
    private static void weakThenOrNot() {
        Shingletrack x = Disks.with(0);
        for (int place = 0; place < 8; place++) {
            x.harm(0, place, 0, true);
        }
        refused("all weak", x, LOST, () -> x.read(0));
        for (int place = 0; place < 8; place++) {
            x.harm(0, place, 0, false);
            int p = place;
            due("weak no longer, up to " + p, p < 3 ? "throws.UnsupportedOperationException" : 1000,
                    () -> x.read(0));
        }
        x.harm(0, 2, 3, true);
        x.harm(0, 2, 3, true);
        Disks.harmPlaces(x, 0, 5, 1);
        due("weak twice is weak once", 1000, () -> x.read(0));
    }

    // ---- shaking, shocks and heat ----

    private static void shakeAndShockTellWhatWas() {
        Shingletrack x = new Shingletrack();
        boolean[] turns = {false, true, true, false, false};
        boolean was = false;
        for (boolean turn : turns) {
            boolean due = was;
            due("shake " + turn, due, () -> x.shake(turn));
            due("shock " + turn, due, () -> x.shock(turn));
            was = turn;
        }
    }

    // "the heat, -20 to 90, 20 at first"
    private static void heatFromMinus20To90() {
        Shingletrack x = new Shingletrack();
        int before = 20;
        for (int heat : new int[] {-20, 90, -19, 89, 0, 20, -20}) {
            int due = before;
            due("heat " + heat, due, () -> x.heat(heat));
            before = heat;
        }
        for (int heat : new int[] {-21, 91, -100, 300, Integer.MIN_VALUE, Integer.MAX_VALUE}) {
            refused("heat " + heat, x, ARGUMENT, () -> x.heat(heat));
        }
        due("the last one stays", -20, () -> x.heat(20));
    }

    // "less 20.0f, divided by 5.0f; that from 10.0f"
    private static void heights() {
        Shingletrack x = new Shingletrack();
        due("at first", 10.0f, x::height);
        due("at first as bits", 0x41200000, x::heightBits);
        int[] heats = {-20, 20, 60, 61, 70, 71, 90};
        float[] heights = {18.0f, 10.0f, 2.0f, 1.8000002f, 0.0f, -0.19999981f, -4.0f};
        int[] bits = {0x41900000, 0x41200000, 0x40000000, 0x3FE66668, 0, 0xBE4CCCC0, 0xC0800000};
        for (int i = 0; i < heats.length; i++) {
            x.heat(heats[i]);
            due("height at " + heats[i], heights[i], x::height);
            due("bits at " + heats[i], bits[i], x::heightBits);
        }
        for (int heat = -20; heat <= 90; heat++) {
            x.heat(heat);
            int due = Float.floatToIntBits(10.0f - (heat - 20.0f) / 5.0f);
            due("bits of " + heat, due, x::heightBits);
            due("bits of the height at " + heat, due, () -> Float.floatToIntBits(x.height()));
        }
    }
}
