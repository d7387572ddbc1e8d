import java.util.NoSuchElementException;

/** The boundary cases of "Seeks", and of the promises 29 to 35. */
public final class EdgesOfSeeksTest {
    private static final Class<?> INDEX = IndexOutOfBoundsException.class;
    private static final Class<?> ARGUMENT = IllegalArgumentException.class;
    private static final Class<?> STATE = IllegalStateException.class;
    private static final Class<?> NONE = NoSuchElementException.class;
    private static final int[] NO_SECTORS = {-1, 60, 61, Integer.MIN_VALUE, Integer.MAX_VALUE};

    private EdgesOfSeeksTest() {
    }

    public static void main(String[] args) {
        tracksFrom0To11();
        theArmIsOnTrack0AtFirst();
        anglesModulo30();
        itsRestBy30();
        zeroTicksForItsOwnTrack();
        otherwise4And2ForEachTrack();
        allSeeks();
        atMost8Requests();
        noneWaits();
        ordersAlone();
        theFirstThatCame();
        thatWhichWouldBeServedAtFirst();
        ofLikeOnesTheFirstThatCame();
        hundredAndFiftyTicksAgo();
        theOldestOne();
        ticksFrom1To999();
        notAbove99999();
        servedAbove99999();
        waitedFromTheirComing();
        nothingHarmsSeeks();
        Checks.finish("EdgesOfSeeksTest");
    }

    private static void due(String what, Object due, Checks.Call call) {
        Checks.due(what, due, call);
    }

    private static void refused(String what, Shingletrack x, Class<?> due, Checks.Call call) {
        Checks.refused(what, x, due, call);
    }

    private static void serve(Shingletrack x, int... sectors) {
        for (int sector : sectors) {
            x.request(sector);
            x.serve('f');
        }
    }

    private static Shingletrack waiting(int... sectors) {
        Shingletrack x = new Shingletrack();
        for (int sector : sectors) {
            x.request(sector);
        }
        return x;
    }

    // ---- tracks and angles ----

    // "Place i of band b is on the track 4 times b and a fifth of i, cut"
    private static void tracksFrom0To11() {
        for (int sector = 0; sector < 60; sector++) {
            Shingletrack x = new Shingletrack();
            serve(x, sector);
            due("track of " + sector, sector / 5, x::arm);
        }
        for (int sector : NO_SECTORS) {
            Shingletrack x = new Shingletrack();
            refused("takes " + sector, x, INDEX, () -> x.takes(sector));
            refused("request " + sector, x, INDEX, () -> x.request(sector));
        }
    }

    // "the arm is on the track 0 at first", "Time is counted in ticks, 0 at first"
    private static void theArmIsOnTrack0AtFirst() {
        Shingletrack x = new Shingletrack();
        due("arm", 0, x::arm);
        due("time", 0, x::time);
        due("waited", 0, x::waited);
        due("the first sector is below it", 6, () -> x.takes(0));
    }

    // "at the angle 6 times the rest of i by 5, and 4 times the track, modulo 30"
    private static void anglesModulo30() {
        Shingletrack x = new Shingletrack();
        int[] anglesOnTrack0 = {0, 6, 12, 18, 24};
        for (int sector = 0; sector < 5; sector++) {
            int s = sector;
            due("angle of " + s, anglesOnTrack0[s] + 6, () -> x.takes(s));
        }
        // Track 7 has the angles 28, 4, 10, 16 and 22: from 28 on they wrap around.
        serve(x, 35);
        due("time at angle 28", 34, x::time);
        int[] due = {30, 6, 12, 18, 24};
        for (int i = 0; i < 5; i++) {
            int sector = 35 + i;
            due("angle of " + sector, due[i], () -> x.takes(sector));
        }
        // The angle of 59 is 6 times 4 and 4 times 11, modulo 30: 8.
        Shingletrack y = new Shingletrack();
        Disks.idle(y, 12);
        due("59 from track 0, just there", 32, () -> y.takes(59));
        Disks.idle(y, 1);
        due("59 from track 0, just gone by", 61, () -> y.takes(59));
    }

    // "the angle by now is its rest by 30"
    private static void itsRestBy30() {
        Shingletrack x = new Shingletrack();
        int[] due = {6, 35, 34, 33};
        for (int i = 0; i < 4; i++) {
            int ticks = due[i];
            due("at " + i, ticks, () -> x.takes(0));
            Disks.idle(x, 1);
        }
        Disks.idle(x, 25);
        due("at 29", 7, () -> x.takes(0));
        Disks.idle(x, 1);
        due("at 30", 6, () -> x.takes(0));
        Disks.idle(x, 1);
        due("at 31", 35, () -> x.takes(0));
        Disks.idle(x, 29 + 30 * 30);
        due("at 960", 6, () -> x.takes(0));
    }

    // "takes 0 ticks for its own track"
    private static void zeroTicksForItsOwnTrack() {
        Shingletrack x = new Shingletrack();
        serve(x, 59);
        due("time", 44, x::time);
        due("the same one again takes a turn", 30, () -> x.takes(59));
        due("the one that comes below it next", 6, () -> x.takes(55));
        serve(x, 55);
        due("no seek", 50, x::time);
        due("still there", 11, x::arm);
    }

    // "otherwise 4, and 2 for each by which the tracks differ"
    private static void otherwise4And2ForEachTrack() {
        for (int track = 1; track < 12; track++) {
            Shingletrack x = new Shingletrack();
            int seek = 4 + 2 * track;
            int sector = 5 * track;
            Disks.idle(x, 60 + 4 * track - seek);
            due("just in time for track " + track, seek + 6, () -> x.takes(sector));
            Disks.idle(x, 1);
            due("just too late for track " + track, seek + 29 + 6, () -> x.takes(sector));
            Shingletrack y = new Shingletrack();
            serve(y, sector);
            int now = y.time();
            Disks.idle(y, 300 - seek - now);
            due("just in time back from track " + track, seek + 6, () -> y.takes(0));
            Disks.idle(y, 1);
            due("just too late back from track " + track, seek + 29 + 6, () -> y.takes(0));
        }
    }

    private static void allSeeks() {
        for (int track = 0; track < 12; track++) {
            for (int ticks = 0; ticks < 30; ticks++) {
                Shingletrack x = new Shingletrack();
                Model model = new Model();
                x.request(5 * track);
                model.request(5 * track);
                due("served", model.serve('f'), () -> x.serve('f'));
                if (ticks > 0) {
                    int t = ticks;
                    due("idle", model.idle(t), () -> x.idle(t));
                }
                for (int sector = 0; sector < 60; sector++) {
                    int s = sector;
                    due("from track " + track + " to " + s, model.takes(s), () -> x.takes(s));
                }
            }
        }
    }

    // ---- requests ----

    // "At most 8 requests wait"
    private static void atMost8Requests() {
        Shingletrack x = new Shingletrack();
        for (int number = 1; number <= 8; number++) {
            int n = number;
            due("number " + n, n, () -> x.request(n == 8 ? 59 : 0));
        }
        refused("a ninth", x, STATE, () -> x.request(0));
        for (int sector : NO_SECTORS) {
            refused("a ninth, no sector", x, INDEX, () -> x.request(sector));
        }
        for (int number = 1; number <= 8; number++) {
            int n = number;
            due("served " + n, n == 8 ? 59 : 0, () -> x.serve('f'));
        }
        refused("the ninth never came", x, NONE, () -> x.serve('f'));
        due("empty again", 1, () -> x.request(3));
        for (int number = 2; number <= 8; number++) {
            x.request(4);
        }
        refused("full again", x, STATE, () -> x.request(0));
        due("serve one", 3, () -> x.serve('f'));
        due("room for one", 8, () -> x.request(5));
        refused("and full", x, STATE, () -> x.request(6));
    }

    private static void noneWaits() {
        Shingletrack x = new Shingletrack();
        refused("none by 'f'", x, NONE, () -> x.serve('f'));
        refused("none by 'n'", x, NONE, () -> x.serve('n'));
        serve(x, 0);
        refused("none any more by 'f'", x, NONE, () -> x.serve('f'));
        refused("none any more by 'n'", x, NONE, () -> x.serve('n'));
    }

    // "if there is no such order"
    private static void ordersAlone() {
        Shingletrack empty = new Shingletrack();
        Shingletrack x = waiting(7);
        for (char order = 0; order < 256; order++) {
            char o = order;
            if (o != 'f' && o != 'n') {
                refused("order " + (int) o, x, ARGUMENT, () -> x.serve(o));
                refused("order " + (int) o + ", none waits", empty, ARGUMENT, () -> empty.serve(o));
            }
        }
        refused("the last order", x, ARGUMENT, () -> x.serve('\uffff'));
        refused("order f and 256 more", x, ARGUMENT, () -> x.serve((char) ('f' + 256)));
        due("the request is still there", 7, () -> x.serve('n'));
    }

    // "the first that came, by the order 'f'"
    private static void theFirstThatCame() {
        int[] sectors = {59, 0, 30, 30, 1, 58, 20, 0};
        Shingletrack x = waiting(sectors);
        for (int sector : sectors) {
            due("by 'f'", sector, () -> x.serve('f'));
        }
        Shingletrack y = waiting(59, 0);
        Disks.idle(y, 500);
        due("by 'f', old ones, too", 59, () -> y.serve('f'));
        due("then the other", 0, () -> y.serve('f'));
    }

    // "or by 'n' that which would be served at first"
    private static void thatWhichWouldBeServedAtFirst() {
        Shingletrack x = waiting(4, 3, 2, 1, 0);
        for (int sector = 0; sector < 5; sector++) {
            due("they come below the head in a row", sector, () -> x.serve('n'));
        }
        due("each 6 ticks behind the other", 30, x::time);
        Shingletrack y = waiting(59, 1);
        Disks.idle(y, 7);
        due("1 has just gone by", 35, () -> y.takes(1));
        due("59 takes longer", 37, () -> y.takes(59));
        due("so 1 is next", 1, () -> y.serve('n'));
        Shingletrack z = waiting(1, 5);
        Disks.idle(z, 9);
        due("1 takes", 33, () -> z.takes(1));
        due("5 takes", 31, () -> z.takes(5));
        due("another track can be nearer", 5, () -> z.serve('n'));
    }

    // "of like ones the first that came"
    private static void ofLikeOnesTheFirstThatCame() {
        // At first the sectors 2 and 15 both take 18 ticks, on the tracks 0 and 3.
        for (int first : new int[] {2, 15}) {
            int other = 17 - first;
            Shingletrack x = waiting(59, first, 58, other);
            due("takes " + first, 18, () -> x.takes(first));
            due("takes " + other, 18, () -> x.takes(other));
            due("the first of like ones", first, () -> x.serve('n'));
        }
        Shingletrack y = waiting(59, 4);
        Disks.idle(y, 1);
        y.request(4);
        due("the same one twice", 4, () -> y.serve('n'));
        due("the older one waited", 30, y::waited);
    }

    // "but one that came 150 ticks ago, or more, goes first"
    private static void hundredAndFiftyTicksAgo() {
        for (int ticks = 147; ticks <= 153; ticks++) {
            Shingletrack x = waiting(59);
            Disks.idle(x, ticks);
            x.request(0);
            due("59 takes longer", true, () -> x.takes(59) > x.takes(0));
            due("behind " + ticks, ticks < 150 ? 0 : 59, () -> x.serve('n'));
        }
        Shingletrack late = new Shingletrack();
        Disks.idle(late, 150);
        late.request(59);
        Disks.idle(late, 149);
        late.request(0);
        due("149 from its coming, not from 0", 0, () -> late.serve('n'));
        Shingletrack y = waiting(59);
        Disks.idle(y, 120);
        y.request(0);
        due("not yet", 0, () -> y.serve('n'));
        due("by now 126 ticks", 126, y::time);
        y.request(4);
        due("not yet either", 4, () -> y.serve('n'));
        due("by now 150 ticks", 150, y::time);
        y.request(0);
        due("the ticks of serving count", 59, () -> y.serve('n'));
    }

    // "the oldest one"
    private static void theOldestOne() {
        Shingletrack x = waiting(59);
        Disks.idle(x, 1);
        x.request(0);
        Disks.idle(x, 149);
        due("one of 150, one of 149", 59, () -> x.serve('n'));
        Shingletrack y = waiting(59, 0, 30);
        Disks.idle(y, 150);
        y.request(1);
        due("of like old ones the first that came", 59, () -> y.serve('n'));
        due("then the second", 0, () -> y.serve('n'));
        due("then the third", 30, () -> y.serve('n'));
        due("then the young one", 1, () -> y.serve('n'));
        Shingletrack z = waiting(59);
        Disks.idle(z, 200);
        z.request(20);
        Disks.idle(z, 200);
        z.request(0);
        due("the older one of two", 59, () -> z.serve('n'));
        due("the other old one", 20, () -> z.serve('n'));
    }

    // ---- time ----

    // "ticks: 1 to 999"
    private static void ticksFrom1To999() {
        Shingletrack x = new Shingletrack();
        for (int ticks : new int[] {0, -1, 1000, 1001, -999, Integer.MIN_VALUE, Integer.MAX_VALUE}) {
            refused("idle " + ticks, x, ARGUMENT, () -> x.idle(ticks));
        }
        due("idle 1", 1, () -> x.idle(1));
        due("idle 999", 1000, () -> x.idle(999));
        due("idle 2", 1002, () -> x.idle(2));
        due("idle 998", 2000, () -> x.idle(998));
    }

    // "if it would be above 99999"
    private static void notAbove99999() {
        Shingletrack x = new Shingletrack();
        Disks.idle(x, 99000);
        due("up to 99999 at once", 99999, () -> x.idle(999));
        for (int ticks : new int[] {1, 2, 999}) {
            refused("not by " + ticks, x, STATE, () -> x.idle(ticks));
        }
        for (int ticks : new int[] {0, 1000, -1, Integer.MAX_VALUE}) {
            refused("out of range as well: " + ticks, x, ARGUMENT, () -> x.idle(ticks));
        }
        Shingletrack y = new Shingletrack();
        Disks.idle(y, 99001);
        refused("one too many", y, STATE, () -> y.idle(999));
        due("up to 99999", 99999, () -> y.idle(998));
        Shingletrack z = new Shingletrack();
        Disks.idle(z, 99998);
        refused("two are too many", z, STATE, () -> z.idle(2));
        due("the last tick", 99999, () -> z.idle(1));
        refused("none behind that", z, STATE, () -> z.idle(1));
    }

    // The limit of idling is none of serving.
    private static void servedAbove99999() {
        Shingletrack x = new Shingletrack();
        Disks.idle(x, 99999);
        due("takes at 99999", 15, () -> x.takes(3));
        serve(x, 3);
        due("served above it", 100014, x::time);
        refused("idle then", x, STATE, () -> x.idle(1));
        refused("idle 0 then", x, ARGUMENT, () -> x.idle(0));
        due("waited", 15, x::waited);
        due("the sum tells of it", new Shingletrack().checksum() + 100014, x::checksum);
    }

    // "from their coming to the end of serving"
    private static void waitedFromTheirComing() {
        Shingletrack x = new Shingletrack();
        Disks.idle(x, 5);
        x.request(0);
        due("none served", 0, x::waited);
        Disks.idle(x, 10);
        due("none served yet", 0, x::waited);
        x.request(0);
        x.serve('f');
        due("the first", 31, x::waited);
        due("time", 36, x::time);
        x.serve('f');
        due("the second as well", 31 + 51, x::waited);
        due("time then", 66, x::time);
        due("the mean", 41.0, x::meanWait);
    }

    // A shock, heat or a wipe keeps no request from being served.
    private static void nothingHarmsSeeks() {
        Shingletrack x = waiting(45, 2);
        x.shock(true);
        x.heat(90);
        due("a third", 3, () -> x.request(0));
        x.wipe();
        x.cut();
        due("served", 0, () -> x.serve('n'));
        due("and another", 2, () -> x.serve('n'));
        due("idle", 28, () -> x.idle(10));
        due("and the last", 45, () -> x.serve('f'));
        due("nothing was read for it", 0, () -> x.count('r'));
    }
}
