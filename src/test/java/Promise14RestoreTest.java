/** Promise 14: restore. */
public final class Promise14RestoreTest {
    public static void main(String[] args) {
        Cases.run(Promise14RestoreTest.class);
    }

    @Says("The disk's bytes are those of the backup; then a start: how many rows there are.")
    static void everyByteIsThatOfTheBackup(Check check) {
        StockLog log = Scenes.busy();
        log.sync();
        check.due("restore", log.restore(), 1);
        check.bytes(log, 0, Disk.row(1, 1, 11, 12));
        for (int place = 11; place < 96; place++) {
            check.due("byte " + place, Disk.at(log, place), 0);
        }
    }

    @Says("The disk's bytes are those of the backup; then a start: how many rows there are.")
    static void whenUpMemoryAndBytesToldAreLost(Check check) {
        StockLog log = Scenes.busy();
        check.due("restore", log.restore(), 1);
        check.counts("behind it", log, 3, 1, 1, 0, 0, 1, 11, 0);
        check.due("end", log.end(1), 2);
        check.row(log, 2, 1);
    }

    @Says("The disk's bytes are those of the backup; then a start: how many rows there are.")
    static void whenDownItIsUpThen(Check check) {
        StockLog log = Scenes.down();
        check.due("restore", log.restore(), 1);
        check.counts("behind it", log, 3, 1, 1, 0, 0, 1, 11, 0);
        check.due("byte of the cut", log.byteOf(0, 20), 0);
        check.due("add", log.add(1), 1);
    }

    @Says("The disk's bytes are those of the backup; then a start: how many rows there are.")
    static void backupOfNoRows(Check check) {
        StockLog log = new StockLog(1);
        log.backup();
        Scenes.tell(log, 1, 1);
        log.sync();
        check.due("restore", log.restore(), 0);
        check.same("the disk", Disk.text(log), " 0".repeat(32));
        check.due("the first row", log.end(1), 1);
    }

    @Says("The disk's bytes are those of the backup; then a start: how many rows there are.")
    static void backupOfAFullDisk(Check check) {
        StockLog log = Scenes.full();
        log.sync();
        log.backup();
        log.poke(0, 31, 1);
        log.poke(0, 0, 1);
        check.due("restore", log.restore(), 2);
        check.due("wrong", log.wrong(), 0);
        check.refused("no room", Check.UNSUPPORTED, () -> log.end(1));
    }

    @Says("then a start: how many rows there are")
    static void rowsOfAnAlteredBackupAreReadAnew(Check check) {
        StockLog log = Scenes.busy();
        log.sync();
        log.poke(0, 24, 1);
        check.due("backup", log.backup(), 4);
        log.poke(0, 24, 1);
        check.due("start", log.start(), 4);
        check.due("restore", log.restore(), 2);
        check.due("wrong", log.wrong(), 5);
    }

    @Says("The disk's bytes are those of the backup")
    static void restoredBytesAreNotTheBackupItself(Check check) {
        StockLog log = Scenes.busy();
        log.restore();
        log.poke(0, 0, 1);
        Scenes.tell(log, 3, 3);
        log.sync();
        check.due("start", log.start(), 0);
        check.due("restore again", log.restore(), 1);
        check.row(log, 1, 1, 11, 12);
        check.due("byte behind it", log.byteOf(0, 11), 0);
    }

    @Says("IllegalStateException: there is no backup.")
    static void noBackupIsRefused(Check check) {
        check.refused("restore of a new object", Check.ILLEGAL_STATE, Scenes::fresh, StockLog::restore);
        check.refused("restore", Check.ILLEGAL_STATE, Promise14RestoreTest::noBackup, StockLog::restore);
    }

    @Says("IllegalStateException: there is no backup.")
    static void noBackupIsRefusedWhenDown(Check check) {
        check.refused("restore", Check.ILLEGAL_STATE, Promise14RestoreTest::noBackupAndDown, StockLog::restore);
        StockLog log = noBackupAndDown();
        check.refused("restore", Check.ILLEGAL_STATE, log::restore);
        check.due("still down", log.count(5), 0);
    }

    private static StockLog noBackup() {
        StockLog log = new StockLog(2);
        Scenes.tell(log, 1, 1);
        log.sync();
        Scenes.tell(log, 2, 2);
        log.add(3);
        return log;
    }

    private static StockLog noBackupAndDown() {
        StockLog log = noBackup();
        log.cut(3, 1);
        return log;
    }
}
