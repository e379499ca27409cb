/** Promise 9: byteOf. */
public final class Promise09ByteOfTest {
    public static void main(String[] args) {
        Cases.run(Promise09ByteOfTest.class);
    }

    @Says("A byte of the disk.")
    static void everyByteOfADiskIsItsOwn(Check check) {
        StockLog log = new StockLog(3);
        int[] row = Disk.row(2, 1, 1, 2, 3, 4, 5, 6, 7, 8, 9, 10, 11, 12, 13, 14, 15, 16, 17, 18, 19, 20);
        int[] other = Disk.row(3, 2, 21, 22, 23, 24, 25, 26, 27, 28, 29, 30, 31, 32, 33, 34, 35, 36, 37, 38, 39, 40);
        Scenes.tell(log, 2, 1, 2, 3, 4, 5, 6, 7, 8, 9, 10, 11, 12, 13, 14, 15, 16, 17, 18, 19, 20);
        Scenes.tell(log, 3, 21, 22, 23, 24, 25, 26, 27, 28, 29, 30, 31, 32, 33, 34, 35, 36, 37, 38, 39, 40);
        log.sync();
        for (int i = 0; i < 96; i++) {
            int due = i < 29 ? row[i] : i < 58 ? other[i - 29] : 0;
            check.due("byteOf(" + i / 32 + ", " + i % 32 + ")", log.byteOf(i / 32, i % 32), due);
        }
    }

    @Says("A byte of the disk.")
    static void firstAndLastByte(Check check) {
        for (int sectors : new int[] {1, 2, 64}) {
            StockLog log = new StockLog(sectors);
            log.poke(0, 0, 3);
            log.poke(sectors - 1, 31, 255);
            check.due("first byte", log.byteOf(0, 0), 3);
            check.due("last byte", log.byteOf(sectors - 1, 31), 255);
        }
    }

    @Says("A byte of the disk.")
    static void rowsInMemoryAreNotSeen(Check check) {
        StockLog log = Scenes.busy();
        check.bytes(log, 20, 0, 0, 0, 0, 0, 0, 0, 0, 0, 0, 0, 0, 0, 0, 0, 0, 0, 0, 0, 0, 0, 0, 0, 0, 0, 0, 0);
        log.sync();
        check.bytes(log, 20, Disk.row(2, 3, 21));
    }

    @Says("A byte of the disk.")
    static void diskThatIsDownIsSeenToo(Check check) {
        StockLog log = Scenes.down();
        check.bytes(log, 0, Disk.row(1, 1, 11, 12));
        check.bytes(log, 11, Disk.row(4, 2));
        check.bytes(log, 20, 90, 2, 0, 3, 1, 21 ^ 255, 0);
        check.due("still down", log.count(5), 0);
    }

    @Says("A byte of the disk.")
    static void askingChangesNothing(Check check) {
        StockLog log = Scenes.busy();
        Disk.bytes(log);
        check.same("all", Scenes.all(log), Scenes.all(Scenes.busy()));
    }

    @Says("ArrayIndexOutOfBoundsException (the machine's own) likewise.")
    static void noSuchSectorIsRefused(Check check) {
        for (int sector : new int[] {-1, 3, 64, 134217728, -134217728, Integer.MIN_VALUE, Integer.MAX_VALUE}) {
            for (int i : new int[] {0, 31}) {
                check.refused("byteOf(" + sector + ", " + i + ")", Check.NO_SUCH_INDEX, Scenes::busy,
                    log -> log.byteOf(sector, i));
            }
        }
        check.refused("sector 64 of 64", Check.NO_SUCH_INDEX, () -> new StockLog(64).byteOf(64, 0));
        check.refused("sector 1 of 1", Check.NO_SUCH_INDEX, () -> new StockLog(1).byteOf(1, 0));
    }

    @Says("ArrayIndexOutOfBoundsException (the machine's own) likewise.")
    static void noSuchByteIsRefused(Check check) {
        for (int i : new int[] {-1, 32, 64, Integer.MIN_VALUE, Integer.MAX_VALUE}) {
            for (int sector = 0; sector < 3; sector++) {
                int one = sector;
                check.refused("byteOf(" + sector + ", " + i + ")", Check.NO_SUCH_INDEX, Scenes::busy,
                    log -> log.byteOf(one, i));
            }
        }
    }

    @Says("ArrayIndexOutOfBoundsException (the machine's own) likewise.")
    static void neitherSectorNorByteIsRefused(Check check) {
        int[][] pairs = {{-1, 32}, {-1, 63}, {3, -1}, {3, 32}, {-1, -1}};
        for (int[] pair : pairs) {
            check.refused("byteOf(" + pair[0] + ", " + pair[1] + ")", Check.NO_SUCH_INDEX, Scenes::busy,
                log -> log.byteOf(pair[0], pair[1]));
        }
    }

    @Says("ArrayIndexOutOfBoundsException (the machine's own) likewise.")
    static void noSuchByteIsRefusedWhenDown(Check check) {
        check.refused("byteOf(3, 0)", Check.NO_SUCH_INDEX, Scenes::down, log -> log.byteOf(3, 0));
        check.refused("byteOf(0, 32)", Check.NO_SUCH_INDEX, Scenes::down, log -> log.byteOf(0, 32));
    }
}
