/** Promises 8 and 9: poke, byteOf. */
public final class DiskBytesTest {
    private static final Check check = new Check();

    public static void main(String[] args) {
        everyByte();
        pokeAltersTheDiskAlone();
        noSuchByte();
        pokeRefusesMasks();
        whenDown();
        check.exit("DiskBytesTest");
    }

    private static void everyByte() {
        StockLog log = new StockLog(2);
        for (int sector = 0; sector < 2; sector++) {
            for (int i = 0; i < 32; i++) {
                int mask = 1 + sector * 32 + i;
                check.due("poke " + mask, log.poke(sector, i, mask), mask);
            }
        }
        for (int sector = 0; sector < 2; sector++) {
            for (int i = 0; i < 32; i++) {
                check.due("byteOf " + sector + ", " + i, log.byteOf(sector, i), 1 + sector * 32 + i);
            }
        }
        check.due("poke 255", log.poke(1, 31, 255), 255 ^ 64);
        check.due("poke 255 again", log.poke(1, 31, 255), 64);
    }

    private static void pokeAltersTheDiskAlone() {
        StockLog log = new StockLog(2);
        Check.tell(log, 1, 33);
        log.sync();
        Check.tell(log, 1, 44);
        log.add(55);
        check.due("poke", log.poke(0, 5, 1), 32);
        check.due("poke under a row in memory", log.poke(0, 15, 7), 7);
        check.due("row on the disk", log.row(1, 10), 33);
        check.due("row in memory", log.row(2, 10), 44);
        check.due("total", log.total(1, 1, 2), 77);
        check.due("told", log.count(4), 1);
        check.due("rows", log.count(1), 2);
        log.sync();
        check.due("the row in memory is written over it", log.byteOf(0, 15), 44);
        check.due("start sees it", log.start(), 0);
    }

    private static void noSuchByte() {
        StockLog log = new StockLog(2);
        Check.tell(log, 1, 3);
        log.sync();
        String before = Check.all(log);
        int[][] pairs = {{2, 0}, {-1, 0}, {0, 32}, {1, 32}, {0, -1}, {1, -1}, {-1, 32}, {2, -1}, {-1, 63},
            {Integer.MIN_VALUE, 0}, {Integer.MAX_VALUE, 0}, {0, Integer.MIN_VALUE}, {0, Integer.MAX_VALUE},
            {134217728, 0}, {-134217728, 5}};
        for (int[] pair : pairs) {
            String place = "(" + pair[0] + ", " + pair[1] + ")";
            check.refused("byteOf" + place, Check.NO_SUCH_INDEX, () -> log.byteOf(pair[0], pair[1]));
            check.refused("poke" + place, Check.NO_SUCH_INDEX, () -> log.poke(pair[0], pair[1], 1));
        }
        check.same("refused pokes change nothing", Check.all(log), before);
        StockLog most = new StockLog(64);
        check.due("the last byte", most.poke(63, 31, 9), 9);
        check.refused("no 65th sector", Check.NO_SUCH_INDEX, () -> most.byteOf(64, 0));
    }

    private static void pokeRefusesMasks() {
        StockLog log = new StockLog(1);
        log.poke(0, 0, 5);
        for (int mask : new int[] {0, -1, 256, Integer.MIN_VALUE, Integer.MAX_VALUE}) {
            check.refused("poke mask " + mask, Check.ILLEGAL_ARGUMENT, () -> log.poke(0, 0, mask));
            check.refused("poke mask " + mask + " nowhere", Check.ILLEGAL_ARGUMENT, () -> log.poke(1, 32, mask));
        }
        check.due("the byte stays", log.byteOf(0, 0), 5);
    }

    private static void whenDown() {
        StockLog log = new StockLog(1);
        Check.tell(log, 2, 3);
        log.sync();
        log.cut(0, 0);
        check.due("byteOf when down", log.byteOf(0, 0), 90);
        check.due("poke when down", log.poke(0, 0, 90), 0);
        check.due("still down", log.count(5), 0);
        check.due("rows till a start", log.count(1), 1);
        check.due("start", log.start(), 0);
        check.due("wrong", log.wrong(), 1);
    }
}
