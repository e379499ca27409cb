/** Promise 7: start. */
public final class Promise07StartTest {
    public static void main(String[] args) {
        Cases.run(Promise07StartTest.class);
    }

    @Says("A start (up or down; what is in memory and told is lost): how many rows there are.")
    static void nothingThereIsNone(Check check) {
        for (int sectors : new int[] {1, 2, 64}) {
            StockLog log = new StockLog(sectors);
            check.due("start", log.start(), 0);
            check.counts("behind it", log, sectors, 0, 0, 0, 0, 1, 0, 0);
            check.due("the first row", log.end(1), 1);
        }
    }

    @Says("A start (up or down; what is in memory and told is lost): how many rows there are.")
    static void whenUpMemoryAndBytesToldAreLost(Check check) {
        StockLog log = Scenes.busy();
        String disk = Disk.text(log);
        check.due("start", log.start(), 2);
        check.counts("behind it", log, 3, 2, 2, 0, 0, 1, 20, 0);
        check.refused("row 3", Check.NO_SUCH_ELEMENT, () -> log.row(3, 0));
        check.due("kind 2", log.find(2, 0), -1);
        check.same("the disk", Disk.text(log), disk);
        check.due("end", log.end(1), 3);
        check.row(log, 3, 1);
    }

    @Says("The disk is UP then.")
    static void whenDownItIsUpThen(Check check) {
        StockLog log = Scenes.down();
        String disk = Disk.text(log);
        check.due("start", log.start(), 2);
        check.counts("behind it", log, 3, 2, 2, 0, 0, 1, 20, 0);
        check.same("the disk", Disk.text(log), disk);
        check.due("add", log.add(1), 1);
    }

    @Says("how many rows there are")
    static void startAgainIsTheSame(Check check) {
        StockLog log = Scenes.busy();
        log.sync();
        check.due("start", log.start(), 4);
        String all = Scenes.all(log);
        check.due("start again", log.start(), 4);
        check.same("all", Scenes.all(log), all);
    }

    @Says("how many rows there are")
    static void rowsAreOnTheDiskThen(Check check) {
        StockLog log = Scenes.busy();
        log.cut(27, 0);
        check.due("start", log.start(), 4);
        for (int number = 1; number <= 4; number++) {
            check.due("row " + number + " on the disk", log.row(number, 2), 1);
        }
        check.counts("behind it", log, 3, 4, 4, 0, 0, 1, 47, 1);
        check.due("sync of none", log.sync(), 0);
    }

    @Says("how many rows there are")
    static void fullDiskIsReadToItsLastByte(Check check) {
        StockLog log = Scenes.full();
        log.sync();
        check.due("start", log.start(), 2);
        check.due("all taken", log.count(6), 32);
        check.due("wrong", log.wrong(), 0);
    }

    @Says("how many rows there are")
    static void mostRowsOfADiskAreRead(Check check) {
        StockLog log = new StockLog(64);
        for (int number = 1; number <= 226; number++) {
            log.end(1 + number % 4);
        }
        Scenes.tell(log, 4, 9, 8, 7, 6, 5);
        log.sync();
        check.due("start", log.start(), 227);
        check.due("all taken", log.count(6), 2048);
        check.due("wrong", log.wrong(), 0);
        check.due("kind of row 226", log.row(226, 0), 3);
        check.row(log, 227, 4, 9, 8, 7, 6, 5);
        check.due("the first row of kind 1", log.find(1, 0), 4);
    }

    @Says("A START reads rows from byte 0 on as long as the next one is whole")
    static void rowsNeverWrittenAreRead(Check check) {
        int[] twenty = {1, 2, 3, 4, 5, 6, 7, 8, 9, 10, 11, 12, 13, 14, 15, 16, 17, 18, 19, 20};
        StockLog log = new StockLog(3);
        int place = Disk.forge(log, 0, 1, 1, twenty);
        place = Disk.forge(log, place, 2, 2);
        place = Disk.forge(log, place, 5, 3, 0, 1, 0, 1, 0, 0, 0, 0);
        Disk.forge(log, place, 4, 4, 255, 0, 128);
        check.due("no row before a start", log.count(1), 0);
        check.due("start", log.start(), 4);
        check.row(log, 1, 1, twenty);
        check.row(log, 2, 2);
        check.row(log, 3, 5, 0, 1, 0, 1, 0, 0, 0, 0);
        check.row(log, 4, 4, 255, 0, 128);
        check.counts("behind it", log, 3, 4, 4, 0, 0, 1, 67, 1);
        check.due("the next row", log.end(1), 5);
    }

    @Says("A START reads rows from byte 0 on as long as the next one is whole")
    static void alteredFirstRowLeavesNone(Check check) {
        StockLog log = Scenes.busy();
        log.sync();
        log.poke(0, 0, 1);
        check.due("start", log.start(), 0);
        check.counts("behind it", log, 3, 0, 0, 0, 0, 1, 0, 0);
        log.poke(0, 0, 1);
        check.due("start with the byte as it was", log.start(), 4);
    }

    @Says("A START reads rows from byte 0 on as long as the next one is whole")
    static void alteredRowsAreAsTheDiskTellsThem(Check check) {
        int[] other = {50, 51, 52, 53, 54, 55, 56, 57, 58, 59, 60, 61, 62, 63, 64, 65, 66, 67, 68, 69};
        StockLog log = Scenes.left(3);
        Disk.forge(log, 0, 3, 1, other);
        check.row(log, 1, 1, new int[20]);
        check.due("start", log.start(), 1);
        check.row(log, 1, 3, other);
    }
}
