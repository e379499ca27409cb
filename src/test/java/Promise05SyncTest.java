/** Promise 5: sync. */
public final class Promise05SyncTest {
    public static void main(String[] args) {
        Cases.run(Promise05SyncTest.class);
    }

    @Says("A sync: how many rows were written to the disk by it.")
    static void nothingInMemoryIsNone(Check check) {
        StockLog log = new StockLog(2);
        check.due("sync of a new object", log.sync(), 0);
        check.same("the disk", Disk.text(log), " 0".repeat(64));
        Scenes.tell(log, 1, 1);
        check.due("sync of one", log.sync(), 1);
        String disk = Disk.text(log);
        check.due("sync again", log.sync(), 0);
        check.same("the disk", Disk.text(log), disk);
    }

    @Says("A sync: how many rows were written to the disk by it.")
    static void bytesToldAreNoRow(Check check) {
        StockLog log = new StockLog(1);
        log.add(5);
        check.due("sync", log.sync(), 0);
        check.same("the disk", Disk.text(log), " 0".repeat(32));
        check.due("bytes told", log.count(4), 1);
        log.end(1);
        check.row(log, 1, 1, 5);
    }

    @Says("A sync: how many rows were written to the disk by it.")
    static void statesAreRowsToo(Check check) {
        StockLog log = Scenes.busy();
        check.due("sync", log.sync(), 2);
        check.counts("behind it", log, 3, 4, 4, 0, 2, 1, 47, 1);
        check.due("row 3 is on the disk", log.row(3, 2), 1);
        check.due("row 4 is on the disk", log.row(4, 2), 1);
        check.bytes(log, 20, Disk.row(2, 3, 21));
        check.bytes(log, 30, Disk.row(5, 4, 0, 1, 0, 1, 0, 0, 0, 1));
        check.bytes(log, 47, 0, 0);
    }

    @Says("A sync: how many rows were written to the disk by it.")
    static void mostRowsOfADiskAtOnce(Check check) {
        StockLog log = new StockLog(64);
        for (int number = 1; number <= 227; number++) {
            log.end(1);
        }
        check.due("sync", log.sync(), 227);
        check.due("sync again", log.sync(), 0);
        check.due("start", log.start(), 227);
    }

    @Says("A sync: how many rows were written to the disk by it.")
    static void lastByteOfTheDiskIsWritten(Check check) {
        StockLog log = Scenes.full();
        check.due("sync", log.sync(), 1);
        check.bytes(log, 23, Disk.row(2, 2));
        check.due("start", log.start(), 2);
    }

    @Says("all rows since the last SYNC (or start) are written to the disk just at the next sync")
    static void rowsOnTheDiskAreNotWrittenAgain(Check check) {
        StockLog log = new StockLog(2);
        Scenes.tell(log, 1, 5);
        log.sync();
        log.poke(0, 5, 3);
        log.poke(0, 12, 255);
        Scenes.tell(log, 1, 6);
        check.due("sync", log.sync(), 1);
        check.due("a byte altered before", log.byteOf(0, 5), 6);
        check.due("a byte written over", log.byteOf(0, 12), 0);
        check.due("the row as it was told", log.row(1, 10), 5);
    }

    @Says("IllegalStateException: down.")
    static void downIsRefused(Check check) {
        check.refused("sync", Check.ILLEGAL_STATE, Scenes::down, StockLog::sync);
        check.refused("sync of a full disk", Check.ILLEGAL_STATE, Scenes::downAndFull, StockLog::sync);
    }

    @Says("A sync: how many rows were written to the disk by it.")
    static void fullDiskCanBeSynced(Check check) {
        StockLog log = Scenes.full();
        log.sync();
        check.due("sync of none", log.sync(), 0);
        check.due("bytes told", log.count(4), 1);
    }
}
