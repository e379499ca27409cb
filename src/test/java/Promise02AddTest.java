/** Promise 2: add. */
public final class Promise02AddTest {
    public static void main(String[] args) {
        Cases.run(Promise02AddTest.class);
    }

    @Says("A byte for the next row: how many there are.")
    static void answersGoFrom1To20(Check check) {
        StockLog log = new StockLog(1);
        for (int n = 1; n <= 20; n++) {
            check.due("add " + n, log.add(n), n);
            check.due("count(4)", log.count(4), n);
        }
        check.due("no row by it", log.count(1), 0);
        check.due("nothing in memory by it", log.count(3), 0);
    }

    @Says("A byte for the next row: how many there are.")
    static void smallestByteIsTaken(Check check) {
        StockLog log = new StockLog(1);
        check.due("add(0)", log.add(0), 1);
        log.end(1);
        check.row(log, 1, 1, 0);
    }

    @Says("A byte for the next row: how many there are.")
    static void largestByteIsTaken(Check check) {
        StockLog log = new StockLog(1);
        check.due("add(255)", log.add(255), 1);
        log.end(1);
        check.row(log, 1, 1, 255);
    }

    @Says("A byte for the next row: how many there are.")
    static void bytesKeepTheirOrder(Check check) {
        StockLog log = new StockLog(1);
        int[] bytes = {0, 255, 1, 254, 127, 128, 2, 3, 5, 7, 11, 13, 17, 19, 23, 29, 31, 37, 41, 43};
        Scenes.tell(log, 3, bytes);
        check.row(log, 1, 3, bytes);
    }

    @Says("int add(int b) throws IllegalArgumentException")
    static void byteBelowTheRangeIsRefused(Check check) {
        for (int b : new int[] {-1, -255, Integer.MIN_VALUE}) {
            check.refused("add(" + b + ")", Check.ILLEGAL_ARGUMENT, Scenes::busy, log -> log.add(b));
        }
    }

    @Says("int add(int b) throws IllegalArgumentException")
    static void byteAboveTheRangeIsRefused(Check check) {
        for (int b : new int[] {256, 257, 65536, Integer.MAX_VALUE}) {
            check.refused("add(" + b + ")", Check.ILLEGAL_ARGUMENT, Scenes::busy, log -> log.add(b));
        }
    }

    @Says("IllegalStateException: down")
    static void downIsRefused(Check check) {
        check.refused("add(0)", Check.ILLEGAL_STATE, Scenes::down, log -> log.add(0));
        check.refused("add(255)", Check.ILLEGAL_STATE, Scenes::down, log -> log.add(255));
    }

    @Says("UnsupportedOperationException: there are twenty")
    static void byte21IsRefused(Check check) {
        check.refused("add(0)", Check.UNSUPPORTED, Scenes::twentyTold, log -> log.add(0));
        check.refused("add(255)", Check.UNSUPPORTED, Scenes::twentyTold, log -> log.add(255));
    }

    @Says("UnsupportedOperationException: there are twenty")
    static void byte20IsTakenAndByte21IsNoneOfTheRow(Check check) {
        StockLog log = Scenes.twentyTold();
        check.due("there are twenty", log.count(4), 20);
        check.refused("add(99)", Check.UNSUPPORTED, () -> log.add(99));
        check.due("end", log.end(3), 5);
        check.row(log, 5, 3, 31, 32, 3, 4, 5, 6, 7, 8, 9, 10, 11, 12, 13, 14, 15, 16, 17, 18, 19, 20);
    }

    @Says("IllegalStateException: down; UnsupportedOperationException: there are twenty.")
    static void outsideTheRangeComesFirst(Check check) {
        for (int b : new int[] {-1, 256}) {
            check.refused("add(" + b + ") when down", Check.ILLEGAL_ARGUMENT, Scenes::down, log -> log.add(b));
            check.refused("add(" + b + ") at twenty", Check.ILLEGAL_ARGUMENT, Scenes::twentyTold, log -> log.add(b));
        }
    }

    @Says("UnsupportedOperationException: there are twenty.")
    static void fullDiskTakesBytesTold(Check check) {
        StockLog log = Scenes.full();
        for (int n = 2; n <= 20; n++) {
            check.due("add on a full disk", log.add(n), n);
        }
        check.refused("add", Check.UNSUPPORTED, () -> log.add(1));
    }

    @Says("A byte for the next row: how many there are.")
    static void bytesBeginAnewBehindARowACutAndAStart(Check check) {
        StockLog log = Scenes.twentyTold();
        log.end(1);
        check.due("add behind a row", log.add(1), 1);
        log.start();
        check.due("add behind a start", log.add(1), 1);
        log.cut(0, 0);
        log.start();
        check.due("add behind a cut", log.add(1), 1);
        log.restore();
        check.due("add behind a restore", log.add(1), 1);
    }
}
