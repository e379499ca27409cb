/** Promise 16: count. */
public final class Promise16CountTest {
    public static void main(String[] args) {
        Cases.run(Promise16CountTest.class);
    }

    @Says("0 sectors, 1 rows, 2 those on the disk, 3 bytes in memory (of whole rows), 4 bytes told, 5 whether it is up, 6 bytes that rows take on the disk and in memory together, 7 whole states")
    static void nothingThere(Check check) {
        check.counts("of one sector", new StockLog(1), 1, 0, 0, 0, 0, 1, 0, 0);
        check.counts("of 64 sectors", new StockLog(64), 64, 0, 0, 0, 0, 1, 0, 0);
    }

    @Says("0 sectors, 1 rows, 2 those on the disk, 3 bytes in memory (of whole rows), 4 bytes told, 5 whether it is up, 6 bytes that rows take on the disk and in memory together, 7 whole states")
    static void somethingOfEverything(Check check) {
        check.counts("of the busy one", Scenes.busy(), 3, 4, 2, 27, 2, 1, 47, 1);
    }

    @Says("0 sectors, 1 rows, 2 those on the disk, 3 bytes in memory (of whole rows), 4 bytes told, 5 whether it is up, 6 bytes that rows take on the disk and in memory together, 7 whole states")
    static void allTaken(Check check) {
        StockLog log = Scenes.full();
        check.counts("of a full disk", log, 1, 2, 1, 9, 1, 1, 32, 0);
        log.sync();
        check.counts("behind a sync", log, 1, 2, 2, 0, 1, 1, 32, 0);
    }

    @Says("2 those on the disk")
    static void rowsBehindASyncAndAStart(Check check) {
        StockLog log = Scenes.busy();
        log.sync();
        check.counts("behind a sync", log, 3, 4, 4, 0, 2, 1, 47, 1);
        log.start();
        check.counts("behind a start", log, 3, 4, 4, 0, 0, 1, 47, 1);
    }

    @Says("3 bytes in memory (of whole rows)")
    static void bytesToldAreNotInMemory(Check check) {
        StockLog log = Scenes.twentyTold();
        check.due("count(3)", log.count(3), 27);
        log.end(1);
        check.due("count(3) behind the row's end", log.count(3), 56);
    }

    @Says("4 bytes told")
    static void bytesToldFrom0To20(Check check) {
        StockLog log = new StockLog(1);
        for (int n = 0; n <= 20; n++) {
            check.due("count(4)", log.count(4), n);
            if (n < 20) {
                log.add(9);
            }
        }
    }

    @Says("5 whether it is up")
    static void downAndUp(Check check) {
        check.counts("when down", Scenes.down(), 3, 2, 2, 0, 0, 0, 20, 0);
        StockLog log = Scenes.down();
        log.start();
        check.counts("when up", log, 3, 2, 2, 0, 0, 1, 20, 0);
    }

    @Says("6 bytes that rows take on the disk and in memory together")
    static void bytesOfRowsFollowThem(Check check) {
        StockLog log = new StockLog(2);
        log.end(1);
        check.due("a row without bytes", log.count(6), 9);
        Scenes.tell(log, 1, new int[20]);
        check.due("and one of twenty", log.count(6), 38);
        log.whole();
        check.due("and a state", log.count(6), 55);
        log.sync();
        check.due("behind a sync", log.count(6), 55);
        log.end(1);
        log.start();
        check.due("behind a start", log.count(6), 55);
        log.poke(0, 9, 1);
        check.due("with a byte altered", log.count(6), 55);
        log.start();
        check.due("behind a start that sees it", log.count(6), 9);
    }

    @Says("7 whole states")
    static void statesFollowTheRows(Check check) {
        StockLog log = new StockLog(3);
        log.whole();
        log.sync();
        log.whole();
        log.end(1);
        check.due("on the disk and in memory", log.count(7), 2);
        log.cut(0, 0);
        check.due("one lost", log.count(7), 1);
        log.poke(0, 0, 1);
        log.start();
        check.due("none read", log.count(7), 0);
    }

    @Says("-1 for another what")
    static void anotherWhat(Check check) {
        for (int what : new int[] {-1, -2, 8, 9, 10, 256, Integer.MIN_VALUE, Integer.MAX_VALUE}) {
            check.due("count(" + what + ")", Scenes.busy().count(what), -1);
            check.due("count(" + what + ") when down", Scenes.down().count(what), -1);
            check.due("count(" + what + ") of a new object", new StockLog(1).count(what), -1);
        }
    }

    @Says("-1 for another what")
    static void askingChangesNothing(Check check) {
        StockLog log = Scenes.busy();
        for (int what = -1; what <= 8; what++) {
            log.count(what);
        }
        check.same("all", Scenes.all(log), Scenes.all(Scenes.busy()));
    }
}
