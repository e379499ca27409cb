/** Promises 13 and 14: backup, restore. */
public final class BackupTest {
    private static final Check check = new Check();

    public static void main(String[] args) {
        backupAndRestore();
        backupOfTheDiskAlone();
        backupInsteadOfAnEarlierOne();
        backupKeepsBytesAsTheyAre();
        refusals();
        restoreWhenDown();
        check.exit("BackupTest");
    }

    private static void backupAndRestore() {
        StockLog log = new StockLog(3);
        Check.tell(log, 1, 1);
        Check.tell(log, 2, 2);
        log.sync();
        check.due("backup", log.backup(), 2);
        String disk = Check.disk(log);
        Check.tell(log, 3, 3);
        log.whole();
        log.sync();
        check.due("restore", log.restore(), 2);
        check.same("the disk's bytes", Check.disk(log), disk);
        check.due("wrong", log.wrong(), 0);
        check.due("no whole state", log.count(7), 0);
        check.due("a row's byte", log.row(2, 10), 2);
        log.poke(0, 0, 1);
        check.due("start", log.start(), 0);
        check.due("restore again", log.restore(), 2);
        check.same("the disk's bytes again", Check.disk(log), disk);
    }

    private static void backupOfTheDiskAlone() {
        StockLog log = new StockLog(3);
        Check.tell(log, 1, 1);
        log.sync();
        Check.tell(log, 2, 2);
        log.add(7);
        String before = Check.all(log);
        check.due("backup with a row in memory", log.backup(), 1);
        check.same("backup changes nothing", Check.all(log), before);
        check.due("restore", log.restore(), 1);
        check.due("what is in memory is lost", log.count(3), 0);
        check.due("what is told is lost", log.count(4), 0);
        check.due("next number", log.end(2), 2);
    }

    private static void backupInsteadOfAnEarlierOne() {
        StockLog log = new StockLog(3);
        check.due("backup of a new disk", log.backup(), 0);
        Check.tell(log, 1, 1);
        log.sync();
        check.due("backup of one row", log.backup(), 1);
        Check.tell(log, 1, 2);
        log.sync();
        check.due("restore of the later one", log.restore(), 1);
        log.poke(2, 31, 4);
        log.backup();
        log.poke(2, 31, 4);
        check.due("restore of the latest", log.restore(), 1);
        check.due("wrong by its bytes", log.wrong(), 1);
        check.due("its last byte", log.byteOf(2, 31), 4);
    }

    private static void backupKeepsBytesAsTheyAre() {
        StockLog log = new StockLog(1);
        Check.tell(log, 1, 1);
        Check.tell(log, 1, 2);
        log.sync();
        log.poke(0, 15, 1);
        check.due("backup of an altered disk tells count(2)", log.backup(), 2);
        log.poke(0, 15, 1);
        check.due("start", log.start(), 2);
        check.due("restore reads the altered bytes", log.restore(), 1);
        check.due("wrong", log.wrong(), 5);
    }

    private static void refusals() {
        StockLog log = new StockLog(1);
        Check.tell(log, 1, 1);
        log.add(3);
        String before = Check.all(log);
        check.refused("restore without a backup", Check.ILLEGAL_STATE, log::restore);
        check.same("refused restore changes nothing", Check.all(log), before);
        log.cut(10, 0);
        before = Check.all(log);
        check.refused("backup when down", Check.ILLEGAL_STATE, log::backup);
        check.same("refused backup changes nothing", Check.all(log), before);
        check.refused("restore behind a refused backup", Check.ILLEGAL_STATE, log::restore);
        check.due("still down", log.count(5), 0);
        log.start();
        check.due("backup", log.backup(), 1);
        log.poke(0, 0, 1);
        log.cut(0, 0);
        check.refused("backup when down again", Check.ILLEGAL_STATE, log::backup);
        check.due("the earlier backup stays", log.restore(), 1);
    }

    private static void restoreWhenDown() {
        StockLog log = new StockLog(2);
        Check.tell(log, 4, 9);
        log.sync();
        log.backup();
        Check.tell(log, 4, 8);
        log.cut(10, 0);
        check.due("restore when down", log.restore(), 1);
        check.due("up", log.count(5), 1);
        check.due("byte of the lost row", log.byteOf(0, 10), 0);
        check.due("writing goes on", log.end(1), 2);
    }
}
