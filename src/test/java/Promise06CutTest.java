/** Promise 6: cut. */
public final class Promise06CutTest {
    private static final int ON_DISK = 10;
    private static final int IN_MEMORY = 21;

    public static void main(String[] args) {
        Cases.run(Promise06CutTest.class);
    }

    /** Row 1 in ten bytes on the disk, rows 2 and 3 in 11 and 10 bytes in memory, and bytes behind that are not 0. */
    private static StockLog rows() {
        StockLog log = new StockLog(2);
        Scenes.tell(log, 1, 11);
        log.sync();
        for (int place = ON_DISK; place < 40; place++) {
            Disk.force(log, place, 100 + place);
        }
        Scenes.tell(log, 2, 21, 22);
        Scenes.tell(log, 3, 31);
        return log;
    }

    private static void written(Check check, int keep, int mask) {
        int[] before = Disk.bytes(rows());
        StockLog synced = rows();
        synced.sync();
        int[] all = Disk.bytes(synced);
        StockLog log = rows();
        log.cut(keep, mask);
        for (int i = 0; i < 64; i++) {
            boolean another = i == ON_DISK + keep && keep < IN_MEMORY && mask != 0;
            int due = i < ON_DISK + keep ? all[i] : another ? all[i] ^ mask : before[i];
            check.due("cut(" + keep + ", " + mask + "), byte " + i, Disk.at(log, i), due);
        }
    }

    @Says("A cut: the first so many bytes of what is in memory are written")
    static void everyNumberOfBytesIsWritten(Check check) {
        for (int keep = 0; keep <= IN_MEMORY; keep++) {
            written(check, keep, 0);
        }
    }

    @Says("and the one behind them, if there is one, exclusive-or a mask")
    static void oneByteBehindIsWrittenAsAnother(Check check) {
        for (int keep = 0; keep < IN_MEMORY; keep++) {
            written(check, keep, 1);
            written(check, keep, 128);
            written(check, keep, 255);
        }
    }

    @Says("and the one behind them, if there is one, exclusive-or a mask")
    static void noneBehindAllBytesIsWritten(Check check) {
        written(check, IN_MEMORY, 1);
        written(check, IN_MEMORY, 255);
    }

    @Says("and the one behind them, if there is one, exclusive-or a mask")
    static void noneBehindTheDisksEndIsWritten(Check check) {
        StockLog log = Scenes.full();
        log.cut(9, 255);
        check.bytes(log, 23, Disk.row(2, 2));
        check.due("start", log.start(), 2);
    }

    @Says("and the one behind them, if there is one, exclusive-or a mask")
    static void lastByteOfTheDiskAsAnother(Check check) {
        StockLog log = Scenes.full();
        log.cut(8, 255);
        int[] row = Disk.row(2, 2);
        row[8] ^= 255;
        check.bytes(log, 23, row);
        check.due("start", log.start(), 1);
        check.due("wrong", log.wrong(), 5);
    }

    @Says("and the one behind them, if there is one, exclusive-or a mask")
    static void maskOfAllAsItIs(Check check) {
        StockLog log = new StockLog(1);
        log.end(1);
        log.cut(0, 90);
        check.due("90 exclusive-or 90 is written", log.byteOf(0, 0), 0);
        StockLog over = new StockLog(1);
        over.poke(0, 0, 7);
        over.end(1);
        over.cut(0, 90);
        check.due("over a byte that was another", over.byteOf(0, 0), 0);
    }

    @Says("(0 .. 255; 0: that one is not written)")
    static void mask0WritesNone(Check check) {
        StockLog log = rows();
        int before = Disk.at(log, ON_DISK);
        log.cut(0, 0);
        check.due("the byte behind none", Disk.at(log, ON_DISK), before);
    }

    @Says("(0 .. 255; 0: that one is not written)")
    static void masks0And255AreTaken(Check check) {
        check.due("cut(0, 0)", Scenes.cut(Scenes.busy(), 0, 0), 0);
        check.due("cut(0, 255)", Scenes.cut(Scenes.busy(), 0, 255), 0);
    }

    @Says("(0 .. 255; 0: that one is not written)")
    static void masksOutsideTheRangeAreRefused(Check check) {
        for (int mask : new int[] {-1, 256, Integer.MIN_VALUE, Integer.MAX_VALUE}) {
            for (int keep : new int[] {0, 1, 27}) {
                check.refused("cut(" + keep + ", " + mask + ")", Check.ILLEGAL_ARGUMENT, Scenes::busy,
                    log -> Scenes.cut(log, keep, mask));
            }
        }
    }

    @Says("IllegalArgumentException: more bytes than there are in memory (none, when it is down), or below 0.")
    static void allBytesAreTakenAndOneMoreIsRefused(Check check) {
        check.due("cut(27, 0)", Scenes.cut(Scenes.busy(), 27, 0), 0);
        for (int keep : new int[] {28, 47, 96, Integer.MAX_VALUE}) {
            check.refused("cut(" + keep + ", 0)", Check.ILLEGAL_ARGUMENT, Scenes::busy,
                log -> Scenes.cut(log, keep, 0));
        }
    }

    @Says("IllegalArgumentException: more bytes than there are in memory (none, when it is down), or below 0.")
    static void below0IsRefused(Check check) {
        for (int keep : new int[] {-1, -20, Integer.MIN_VALUE}) {
            check.refused("cut(" + keep + ", 0)", Check.ILLEGAL_ARGUMENT, Scenes::busy,
                log -> Scenes.cut(log, keep, 0));
        }
    }

    @Says("IllegalArgumentException: more bytes than there are in memory (none, when it is down), or below 0.")
    static void nothingInMemory(Check check) {
        check.refused("cut(1, 0)", Check.ILLEGAL_ARGUMENT, Scenes::fresh, log -> Scenes.cut(log, 1, 0));
        for (int mask : new int[] {0, 255}) {
            StockLog log = new StockLog(2);
            log.cut(0, mask);
            check.same("the disk", Disk.text(log), " 0".repeat(64));
            check.counts("behind it", log, 2, 0, 0, 0, 0, 0, 0, 0);
        }
    }

    @Says("IllegalArgumentException: more bytes than there are in memory (none, when it is down), or below 0.")
    static void bytesToldAreNotInMemory(Check check) {
        check.refused("cut(1, 0)", Check.ILLEGAL_ARGUMENT, Promise06CutTest::oneTold, log -> Scenes.cut(log, 1, 0));
        StockLog log = oneTold();
        log.cut(0, 255);
        check.same("the disk", Disk.text(log), " 0".repeat(32));
    }

    private static StockLog oneTold() {
        StockLog log = new StockLog(1);
        log.add(77);
        return log;
    }

    @Says("IllegalArgumentException: more bytes than there are in memory (none, when it is down), or below 0.")
    static void rowsOnTheDiskAreNotInMemory(Check check) {
        check.refused("cut(1, 0)", Check.ILLEGAL_ARGUMENT, () -> Scenes.left(9), log -> Scenes.cut(log, 1, 0));
    }

    @Says("Bytes told for a row are lost, too.")
    static void bytesToldAreLost(Check check) {
        StockLog log = Scenes.twentyTold();
        log.cut(0, 0);
        check.due("bytes told when down", log.count(4), 0);
        log.start();
        check.due("bytes told when up", log.count(4), 0);
        check.due("end", log.end(1), 3);
        check.row(log, 3, 1);
    }

    @Says("what is in memory is lost; the disk is DOWN then, till a START")
    static void rowsInMemoryAreLost(Check check) {
        StockLog log = Scenes.busy();
        log.cut(10, 0);
        check.counts("behind it", log, 3, 2, 2, 0, 0, 0, 20, 0);
        check.refused("row 3", Check.NO_SUCH_ELEMENT, () -> log.row(3, 0));
        check.due("kind 2", log.find(2, 0), -1);
        check.due("its bytes", log.total(2, 1, 9), 0);
        check.row(log, 1, 1, 11, 12);
        check.due("start finds the one that was written whole", log.start(), 3);
        check.row(log, 3, 2, 21);
    }

    @Says("IllegalStateException: down.")
    static void downIsRefused(Check check) {
        check.refused("cut(0, 0)", Check.ILLEGAL_STATE, Scenes::down, log -> Scenes.cut(log, 0, 0));
        check.refused("cut(0, 255)", Check.ILLEGAL_STATE, Scenes::down, log -> Scenes.cut(log, 0, 255));
    }

    @Says("more bytes than there are in memory (none, when it is down)")
    static void outsideTheRangeComesBeforeDown(Check check) {
        int[][] pairs = {{1, 0}, {27, 0}, {Integer.MAX_VALUE, 0}, {-1, 0}, {Integer.MIN_VALUE, 0}, {0, -1}, {0, 256}};
        for (int[] pair : pairs) {
            check.refused("cut(" + pair[0] + ", " + pair[1] + ")", Check.ILLEGAL_ARGUMENT, Scenes::down,
                log -> Scenes.cut(log, pair[0], pair[1]));
        }
    }

    @Says("IllegalArgumentException: more bytes than there are in memory (none, when it is down), or below 0.")
    static void bothNumbersOutsideTheirRanges(Check check) {
        int[][] pairs = {{28, 256}, {28, -1}, {-1, 256}, {-1, -1}};
        for (int[] pair : pairs) {
            check.refused("cut(" + pair[0] + ", " + pair[1] + ")", Check.ILLEGAL_ARGUMENT, Scenes::busy,
                log -> Scenes.cut(log, pair[0], pair[1]));
        }
    }

    @Says("A cut: the first so many bytes of what is in memory are written")
    static void startBehindEachCutFindsTheWholeRows(Check check) {
        for (int keep = 0; keep <= IN_MEMORY; keep++) {
            StockLog log = rows();
            log.cut(keep, 0);
            check.due("start behind cut(" + keep + ", 0)", log.start(), keep < 11 ? 1 : keep < 21 ? 2 : 3);
        }
    }
}
