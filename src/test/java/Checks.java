/** What the tests share: checks that are counted, and the state of a disk as a text. */
final class Checks {
    /** A call whose answer is a text. */
    interface Call {
        Object make();
    }

    private static final int SECTORS = 60;
    private static final int BANDS = 3;
    private static final int BAND_SIZE = 20;
    private static int wrong = 0;

    private Checks() {
    }

    /** The answer of a call, or the name of what it throws. */
    static String answer(Call call) {
        try {
            return String.valueOf(call.make());
        } catch (RuntimeException e) {
            return "throws." + e.getClass().getSimpleName();
        }
    }

    static void due(String what, Object due, Call call) {
        same(what, String.valueOf(due), answer(call));
    }

    /** A call that throws just this, and changes nothing. */
    static void refused(String what, Shingletrack disk, Class<?> due, Call call) {
        String before = stateOf(disk);
        same(what, "throws." + due.getSimpleName(), answer(call));
        same(what + " left the object as it was", before, stateOf(disk));
    }

    static void same(String what, String due, String got) {
        if (!due.equals(got)) {
            wrong++;
            System.out.println(what + " answered " + got + ", due is " + due);
        }
    }

    /** What the word of a sector on the platter is, with no weak places then. */
    static void word(String what, long due, Shingletrack disk, int sector) {
        same(what, Long.toHexString(due), Long.toHexString(Disks.wordOf(disk, sector)));
    }

    /** All that a disk tells without being changed. */
    static String stateOf(Shingletrack disk) {
        StringBuilder state = new StringBuilder();
        for (int sector = 0; sector < SECTORS; sector++) {
            state.append(disk.where(sector)).append(disk.takes(sector)).append(' ');
        }
        for (int band = 0; band < BANDS; band++) {
            state.append(disk.end(band)).append(' ');
            for (int index = 0; index < BAND_SIZE; index++) {
                state.append(disk.isMapped(band, index) ? 'm' : '.');
            }
        }
        for (char what : "wrpmlc".toCharArray()) {
            state.append(' ').append(what).append(disk.count(what));
        }
        state.append(" buffered ").append(disk.buffered()).append(" plain ").append(disk.plain());
        state.append(" spares ").append(disk.spares()).append(" height ").append(disk.height());
        state.append(" bits ").append(disk.heightBits()).append(" time ").append(disk.time());
        state.append(" arm ").append(disk.arm()).append(" waited ").append(disk.waited());
        state.append(" sum ").append(disk.checksum()).append(" sound ").append(disk.isSound());
        state.append(" share ").append(answer(disk::mappedShare));
        state.append(" wait ").append(answer(disk::meanWait));
        return state.toString();
    }

    static void finish(String name) {
        System.out.println(wrong == 0 ? name + ": all as due" : name + ": " + wrong + " not as due");
        if (wrong != 0) {
            System.exit(1);
        }
    }
}
