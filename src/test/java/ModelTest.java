import java.util.Random;

/** All promises at once: long runs of calls, the same at each time, against the plain model. */
public final class ModelTest {
    /** What a run makes most of: without the second one only small disks would fill, without the third few would break. */
    private enum Bent { NONE, WRITING, ALTERING }

    private static final int RUNS = 1500;
    private static final int CALLS = 512;
    private static final int LAST_LOOKS = 60;
    private static final int[] EXTREMES = {Integer.MIN_VALUE, Integer.MIN_VALUE + 1, -257, -1, 0, 1, 2, 5, 6, 20, 21,
        31, 32, 63, 64, 255, 256, 65536, 134217728, Integer.MAX_VALUE - 1, Integer.MAX_VALUE};
    private static final int[] SECTORS = {1, 1, 2, 2, 3, 4, 8, 16, 24, 64, 0, 70};

    private static final Check check = new Check("ModelTest");
    private static final Bent[] BENTS = Bent.values();
    private static Random random;
    private static Bent bent;
    private static StockLog log;
    private static PlainModel model;

    public static void main(String[] args) {
        for (int run = 0; run < RUNS; run++) {
            random = new Random(run);
            bent = BENTS[run / SECTORS.length % BENTS.length];
            int sectors = SECTORS[run % SECTORS.length];
            log = new StockLog(sectors);
            model = new PlainModel(sectors);
            for (int call = 1; call <= CALLS - LAST_LOOKS; call++) {
                oneCall("run " + run + " call " + call + " ");
            }
            lastLooks("run " + run + " at its end ");
        }
        check.exit();
    }

    /** The last calls of a run ask for what wrong answers before them may have left unseen. */
    private static void lastLooks(String run) {
        both(run + "wrong", log::wrong, model::wrong);
        for (int asked = 0; asked < 8; asked++) {
            int what = asked;
            both(run + "count " + what, () -> log.count(what), () -> model.count(what));
        }
        int size = 32 * model.count(0);
        int first = Math.max(0, model.count(6) - 30);
        for (int looks = 9; looks < LAST_LOOKS; looks++) {
            int place = (first + looks) % size;
            both(run + "byte " + place, () -> Disk.at(log, place), () -> model.byteOf(place / 32, place % 32));
        }
    }

    private static void both(String call, Check.Call ofLog, Check.Call ofModel) {
        check.same(call, Check.outcome(ofLog), Check.outcome(ofModel));
    }

    private static int number(int least, int most) {
        if (random.nextInt(25) == 0) {
            return EXTREMES[random.nextInt(EXTREMES.length)];
        }
        return least + random.nextInt(most - least + 1);
    }

    private static int choice() {
        int choice = random.nextInt(100);
        if (bent == Bent.WRITING && choice >= 50 && choice < 65) {
            return random.nextInt(20) == 0 ? choice : random.nextInt(50);
        }
        if (bent == Bent.ALTERING && choice >= 65 && random.nextBoolean()) {
            return 50 + random.nextInt(15);
        }
        return choice;
    }

    private static void oneCall(String run) {
        int choice = choice();
        if (choice < 50) {
            writing(run, choice);
        } else if (choice < 65) {
            altering(run, choice);
        } else {
            asking(run, choice);
        }
    }

    private static void writing(String run, int choice) {
        int b = number(0, 255);
        int kind = number(0, 5);
        if (choice < 20) {
            both(run + "add " + b, () -> log.add(b), () -> model.add(b));
        } else if (choice < 38) {
            both(run + "end " + kind, () -> log.end(kind), () -> model.end(kind));
        } else if (choice < 43) {
            both(run + "whole", log::whole, model::whole);
        } else {
            both(run + "sync", log::sync, model::sync);
        }
    }

    private static void altering(String run, int choice) {
        if (choice < 54) {
            int keep = number(-1, model.count(3) + 1);
            int mask = random.nextBoolean() ? 0 : number(-1, 256);
            both(run + "cut " + keep + " " + mask, () -> cut(keep, mask), () -> model.cut(keep, mask));
        } else if (choice < 58) {
            both(run + "start", log::start, model::start);
        } else if (choice < 61) {
            int at = Math.max(0, model.count(6) - random.nextInt(30));
            int sector = random.nextBoolean() ? at / 32 : number(-1, model.count(0));
            int i = random.nextBoolean() ? at % 32 : number(-1, 32);
            int mask = random.nextBoolean() ? 1 << random.nextInt(8) : number(0, 256);
            both(run + "poke", () -> log.poke(sector, i, mask), () -> model.poke(sector, i, mask));
        } else if (choice < 63) {
            both(run + "backup", log::backup, model::backup);
        } else {
            both(run + "restore", log::restore, model::restore);
        }
    }

    private static int cut(int keep, int mask) {
        log.cut(keep, mask);
        return 0;
    }

    private static void asking(String run, int choice) {
        int number = number(0, model.count(1) + 1);
        int other = number(0, model.count(1) + 1);
        int kind = number(0, 6);
        if (choice < 70) {
            int sector = number(-1, model.count(0));
            int i = number(-1, 32);
            both(run + "byteOf", () -> log.byteOf(sector, i), () -> model.byteOf(sector, i));
        } else if (choice < 80) {
            int what = random.nextBoolean() ? number(-1, 3) : number(9, 30);
            both(run + "row " + number + " " + what, () -> log.row(number, what), () -> model.row(number, what));
        } else if (choice < 85) {
            both(run + "find " + kind + " " + other, () -> log.find(kind, other / 2), () -> model.find(kind, other / 2));
        } else if (choice < 90) {
            both(run + "total", () -> log.total(kind, number, other), () -> model.total(kind, number, other));
        } else if (choice < 93) {
            both(run + "wrong", log::wrong, model::wrong);
        } else {
            int what = number(-1, 8);
            both(run + "count " + what, () -> log.count(what), () -> model.count(what));
        }
    }
}
