import java.util.Random;

/** Runs of 512 calls, the same ones on the class and on the model, with every answer compared. */
public final class RandomRunsTest {
    private static final int RUNS = 600;
    private static final int CALLS = 512;

    private final Random random;
    private final Shingletrack disk = new Shingletrack();
    private final Model model = new Model();
    private final String name;
    private final int bandsUsed;
    private final int crowd;

    private RandomRunsTest(long seed) {
        random = new Random(seed);
        name = "run " + seed;
        bandsUsed = 1 + random.nextInt(3);
        crowd = 3 + random.nextInt(18);
    }

    public static void main(String[] args) {
        for (long seed = 0; seed < RUNS; seed++) {
            RandomRunsTest run = new RandomRunsTest(seed);
            for (int i = 0; i < CALLS; i++) {
                run.step();
            }
        }
        Checks.finish("RandomRunsTest");
    }

    private void compare(String call, Checks.Call due, Checks.Call got) {
        Checks.same(name + ": " + call, Checks.answer(due), Checks.answer(got));
    }

    private int sector() {
        if (random.nextInt(60) == 0) {
            return random.nextBoolean() ? -1 : 60;
        }
        int band = random.nextInt(bandsUsed);
        return 20 * band + random.nextInt(crowd) % 20;
    }

    // Most writes are in a row, or the bands would hardly grow.
    private int sectorToWrite() {
        int band = random.nextInt(bandsUsed);
        if (random.nextInt(5) < 2 && model.end(band) < 20) {
            return 20 * band + Math.min(19, model.end(band) + random.nextInt(3));
        }
        return sector();
    }

    private int band() {
        return random.nextInt(12) == 0 ? (random.nextBoolean() ? -1 : 3) : random.nextInt(3);
    }

    private int index() {
        return random.nextInt(20) == 0 ? (random.nextBoolean() ? -1 : 20) : random.nextInt(20);
    }

    private void step() {
        int kind = random.nextInt(100);
        if (kind < 38) {
            stepOfWriting(kind);
        } else if (kind < 75) {
            stepOfCare(kind - 38);
        } else {
            stepOfRest(kind - 75);
        }
        if (random.nextInt(4) == 0) {
            compare("checksum", model::checksum, disk::checksum);
            compare("isSound", model::isSound, disk::isSound);
        }
        for (char what : "wrpmlc".toCharArray()) {
            compare("count " + what, () -> model.count(what), () -> disk.count(what));
        }
    }

    private void stepOfWriting(int kind) {
        if (kind < 20) {
            int s = sectorToWrite();
            int v = random.nextInt(80) == 0 ? 65536 : random.nextInt(65536);
            compare("write " + s + " " + v, () -> model.write(s, v), () -> disk.write(s, v));
        } else if (kind < 30) {
            int s = sector();
            compare("read " + s, () -> model.read(s), () -> disk.read(s));
        } else if (kind < 33) {
            compare("barrier", model::barrier, disk::barrier);
        } else if (kind < 34) {
            compare("cut", model::cut, disk::cut);
        } else if (kind < 36) {
            int s = sector();
            compare("where " + s, () -> model.where(s), () -> disk.where(s));
        } else if (kind < 37) {
            int b = band();
            compare("clean " + b, () -> model.clean(b), () -> disk.clean(b));
        } else {
            compare("plain", model::plain, disk::plain);
            compare("buffered", model::buffered, disk::buffered);
            int b = band();
            compare("end " + b, () -> model.end(b), () -> disk.end(b));
            if (random.nextInt(6) == 0) {
                compare("wipe", model::wipe, disk::wipe);
            }
        }
    }

    private void stepOfCare(int kind) {
        boolean is = random.nextBoolean();
        if (kind < 4) {
            int b = band();
            int i = index();
            compare("bad " + b + " " + i, () -> model.bad(b, i), () -> disk.bad(b, i));
        } else if (kind < 7) {
            int b = band();
            int i = index();
            compare("isMapped " + b + " " + i, () -> model.isMapped(b, i), () -> disk.isMapped(b, i));
            compare("spares", model::spares, disk::spares);
            compare("mappedShare", model::mappedShare, disk::mappedShare);
        } else if (kind < 26) {
            int s = sector();
            int times = 1 + random.nextInt(4);
            for (int i = 0; i < times; i++) {
                harmOnce(s);
            }
        } else if (kind < 29) {
            compare("scrub", model::scrub, disk::scrub);
        } else if (kind < 31) {
            compare("shake " + is, () -> model.shake(is), () -> disk.shake(is));
        } else if (kind < 34) {
            boolean isShock = random.nextInt(4) == 0;
            compare("shock " + isShock, () -> model.shock(isShock), () -> disk.shock(isShock));
        } else {
            int h = random.nextInt(3) == 0 ? random.nextInt(114) - 22 : random.nextInt(70) - 8;
            compare("heat " + h, () -> model.heat(h), () -> disk.heat(h));
            compare("height", model::height, disk::height);
            compare("heightBits", model::heightBits, disk::heightBits);
        }
    }

    private void harmOnce(int s) {
        int p = random.nextInt(60) == 0 ? 8 : random.nextInt(8);
        int by = random.nextInt(60) == 0 ? 16 : random.nextInt(16);
        boolean isWeak = random.nextInt(3) == 0;
        compare("harm " + s + " " + p + " " + by + " " + isWeak,
                () -> model.harm(s, p, by, isWeak), () -> disk.harm(s, p, by, isWeak));
    }

    private void stepOfRest(int kind) {
        if (kind < 5) {
            int s = sector();
            compare("request " + s, () -> model.request(s), () -> disk.request(s));
        } else if (kind < 9) {
            char order = random.nextInt(30) == 0 ? 'x' : random.nextInt(4) == 0 ? 'f' : 'n';
            compare("serve " + order, () -> model.serve(order), () -> disk.serve(order));
            compare("arm", model::arm, disk::arm);
            compare("time", model::time, disk::time);
            compare("waited", model::waited, disk::waited);
            compare("meanWait", model::meanWait, disk::meanWait);
        } else if (kind < 11) {
            int t = random.nextInt(20) == 0 ? random.nextInt(1200) : random.nextInt(80);
            compare("idle " + t, () -> model.idle(t), () -> disk.idle(t));
        } else if (kind < 13) {
            int s = sector();
            compare("takes " + s, () -> model.takes(s), () -> disk.takes(s));
        } else if (kind < 19) {
            int v = random.nextInt(83) - 41;
            compare("sample " + v, () -> model.sample(v), () -> disk.sample(v));
        } else if (kind < 20) {
            compare("guess", model::guess, disk::guess);
        } else {
            stepOfWords();
        }
    }

    private void stepOfWords() {
        int value = random.nextInt(65536);
        compare("word " + value, () -> model.word(value), () -> disk.word(value));
        long word = model.word(value);
        int errors = random.nextInt(4);
        for (int i = 0; i < errors; i++) {
            word ^= (long) random.nextInt(16) << 4 * random.nextInt(8);
        }
        long harmed = word;
        int weak = random.nextInt(256) & random.nextInt(256) & random.nextInt(256);
        compare("mend " + harmed + " " + weak, () -> model.mend(harmed, weak), () -> disk.mend(harmed, weak));
        compare("mended " + harmed + " " + weak, () -> model.mended(harmed, weak), () -> disk.mended(harmed, weak));
        int data = random.nextInt(256);
        int before = random.nextInt(2);
        compare("encode " + data, () -> model.encode(data, before), () -> disk.encode(data, before));
        int cells = random.nextBoolean() ? model.encode(data, before) : random.nextInt(65536);
        compare("decode " + cells, () -> model.decode(cells, before), () -> disk.decode(cells, before));
    }
}
