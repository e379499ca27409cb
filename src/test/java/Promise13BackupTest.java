/** Promise 13: backup. */
public final class Promise13BackupTest {
    public static void main(String[] args) {
        Cases.run(Promise13BackupTest.class);
    }

    @Says("how many rows are on the disk (as count(2) tells)")
    static void noRows(Check check) {
        StockLog log = new StockLog(1);
        check.due("backup", log.backup(), 0);
        check.due("restore", log.restore(), 0);
    }

    @Says("how many rows are on the disk (as count(2) tells)")
    static void rowsOnTheDiskAlone(Check check) {
        StockLog log = Scenes.busy();
        check.due("backup", log.backup(), 2);
        log.sync();
        check.due("backup behind a sync", log.backup(), 4);
    }

    @Says("how many rows are on the disk (as count(2) tells)")
    static void alteredRowsAreTold(Check check) {
        StockLog log = Scenes.busy();
        log.poke(0, 0, 1);
        check.due("backup", log.backup(), 2);
        check.due("as count(2)", log.count(2), 2);
        log.start();
        check.due("backup behind a start", log.backup(), 0);
    }

    @Says("how many rows are on the disk (as count(2) tells)")
    static void mostRowsOfADisk(Check check) {
        StockLog log = new StockLog(64);
        for (int number = 1; number <= 227; number++) {
            log.end(1);
        }
        log.sync();
        log.poke(63, 31, 77);
        check.due("backup", log.backup(), 227);
        log.poke(63, 31, 1);
        log.poke(0, 0, 1);
        check.due("start", log.start(), 0);
        check.due("restore", log.restore(), 227);
        check.due("the last byte", log.byteOf(63, 31), 77);
    }

    @Says("A backup: the disk's bytes as they are now are kept beside")
    static void bytesAlteredLaterAreNotKept(Check check) {
        StockLog log = Scenes.busy();
        String disk = Disk.text(log);
        log.backup();
        for (int sector = 0; sector < 3; sector++) {
            for (int i = 0; i < 32; i++) {
                log.poke(sector, i, 255);
            }
        }
        log.restore();
        check.same("the disk", Disk.text(log), disk);
    }

    @Says("the disk's bytes as they are now are kept beside")
    static void nothingElseChanges(Check check) {
        StockLog log = Scenes.busy();
        log.backup();
        check.same("all", Scenes.all(log), Scenes.all(Scenes.busy()));
        check.due("end", log.end(1), 5);
        check.row(log, 5, 1, 31, 32);
        check.due("sync", log.sync(), 3);
    }

    @Says("the disk's bytes as they are now are kept beside")
    static void memoryAndBytesToldAreNotKept(Check check) {
        StockLog log = Scenes.busy();
        log.backup();
        log.sync();
        check.due("restore", log.restore(), 2);
        check.counts("behind it", log, 3, 2, 2, 0, 0, 1, 20, 0);
    }

    @Says("(instead of an earlier backup)")
    static void earlierBackupIsGone(Check check) {
        StockLog log = Scenes.busy();
        log.backup();
        check.due("restore of the later one", log.restore(), 2);
        log.start();
        check.due("restore again", log.restore(), 2);
    }

    @Says("IllegalStateException: down.")
    static void downIsRefused(Check check) {
        check.refused("backup", Check.ILLEGAL_STATE, Scenes::down, StockLog::backup);
        check.refused("backup of a full disk", Check.ILLEGAL_STATE, Scenes::downAndFull, StockLog::backup);
    }

    @Says("IllegalStateException: down.")
    static void refusedBackupIsNone(Check check) {
        StockLog log = new StockLog(1);
        log.cut(0, 0);
        check.refused("backup", Check.ILLEGAL_STATE, log::backup);
        check.refused("restore", Check.ILLEGAL_STATE, log::restore);
        log.start();
        check.refused("restore when up", Check.ILLEGAL_STATE, log::restore);
        check.due("backup when up", log.backup(), 0);
    }

    @Says("IllegalStateException: down.")
    static void refusedBackupLeavesTheEarlierOne(Check check) {
        StockLog log = Scenes.down();
        log.poke(0, 0, 1);
        check.refused("backup", Check.ILLEGAL_STATE, log::backup);
        check.due("restore of the earlier one", log.restore(), 1);
        check.row(log, 1, 1, 11, 12);
    }
}
