/** Promise 3: end. */
public final class Promise03EndTest {
    private static final int[] OTHER_KINDS = {0, 5, 6, -1, 256, Integer.MIN_VALUE, Integer.MAX_VALUE};

    public static void main(String[] args) {
        Cases.run(Promise03EndTest.class);
    }

    @Says("The bytes told are a row of a kind 1 .. 4, in memory: its number.")
    static void kinds1To4AreTaken(Check check) {
        StockLog log = new StockLog(2);
        for (int kind = 1; kind <= 4; kind++) {
            check.due("end(" + kind + ")", Scenes.tell(log, kind, 10 * kind), kind);
            check.row(log, kind, kind, 10 * kind);
        }
    }

    @Says("The bytes told are a row of a kind 1 .. 4, in memory: its number.")
    static void otherKindsAreRefused(Check check) {
        for (int kind : OTHER_KINDS) {
            check.refused("end(" + kind + ")", Check.ILLEGAL_ARGUMENT, Scenes::busy, log -> log.end(kind));
        }
    }

    @Says("The bytes told are a row of a kind 1 .. 4, in memory: its number.")
    static void noBytesToldAreARow(Check check) {
        StockLog log = new StockLog(1);
        check.due("end", log.end(2), 1);
        check.row(log, 1, 2);
        check.counts("behind it", log, 1, 1, 0, 9, 0, 1, 9, 0);
    }

    @Says("The bytes told are a row of a kind 1 .. 4, in memory: its number.")
    static void twentyBytesToldAreARow(Check check) {
        StockLog log = new StockLog(1);
        check.due("end", Scenes.tell(log, 4, new int[20]), 1);
        check.row(log, 1, 4, new int[20]);
        check.counts("behind it", log, 1, 1, 0, 29, 0, 1, 29, 0);
    }

    @Says("The bytes told are a row of a kind 1 .. 4, in memory: its number.")
    static void rowIsInMemoryAlone(Check check) {
        StockLog log = Scenes.busy();
        String disk = Disk.text(log);
        check.due("end", log.end(3), 5);
        check.due("it is not on the disk", log.row(5, 2), 0);
        check.same("the disk", Disk.text(log), disk);
        check.counts("behind it", log, 3, 5, 2, 38, 0, 1, 58, 1);
    }

    @Says("(They are gone then; not if it is refused.)")
    static void bytesToldAreGoneThen(Check check) {
        StockLog log = new StockLog(2);
        Scenes.tell(log, 1, 7, 8);
        check.due("bytes told", log.count(4), 0);
        check.due("end without bytes", log.end(1), 2);
        check.row(log, 2, 1);
    }

    @Says("(They are gone then; not if it is refused.)")
    static void bytesToldStayWhenItIsRefused(Check check) {
        StockLog log = Scenes.busy();
        check.refused("end(5)", Check.ILLEGAL_ARGUMENT, () -> log.end(5));
        check.due("end(1)", log.end(1), 5);
        check.row(log, 5, 1, 31, 32);
    }

    @Says("(They are gone then; not if it is refused.)")
    static void bytesToldStayWhenItIsFull(Check check) {
        StockLog log = Scenes.left(10);
        log.add(1);
        log.add(2);
        check.refused("end for 11 of 10 bytes", Check.UNSUPPORTED, () -> log.end(1));
        check.due("bytes told", log.count(4), 2);
        check.due("one byte more", log.add(3), 3);
        log.start();
        check.due("the bytes are lost, the row fits", Scenes.tell(log, 1, 4), 2);
        check.row(log, 2, 1, 4);
    }

    @Says("IllegalStateException: down; UnsupportedOperationException: full.")
    static void downIsRefused(Check check) {
        for (int kind = 1; kind <= 4; kind++) {
            int one = kind;
            check.refused("end(" + one + ")", Check.ILLEGAL_STATE, Scenes::down, log -> log.end(one));
        }
    }

    @Says("UnsupportedOperationException: full.")
    static void fullIsRefused(Check check) {
        for (int kind = 1; kind <= 4; kind++) {
            int one = kind;
            check.refused("end(" + one + ")", Check.UNSUPPORTED, Scenes::full, log -> log.end(one));
        }
    }

    @Says("UnsupportedOperationException: full.")
    static void bareRowNeeds9Bytes(Check check) {
        check.due("end with 9 left", Scenes.left(9).end(1), 2);
        for (int left = 3; left <= 8; left++) {
            int few = left;
            check.refused("end with " + few + " left", Check.UNSUPPORTED, () -> Scenes.left(few), log -> log.end(1));
        }
    }

    @Says("UnsupportedOperationException: full.")
    static void noByteLeftIsRefused(Check check) {
        StockLog log = Scenes.left(9);
        log.end(1);
        check.refused("end, the last row in memory", Check.UNSUPPORTED, () -> log.end(1));
        log.sync();
        check.refused("end, the last row on the disk", Check.UNSUPPORTED, () -> log.end(1));
        log.start();
        check.refused("end behind a start", Check.UNSUPPORTED, () -> log.end(1));
        check.due("all taken", log.count(6), 32);
    }

    @Says("UnsupportedOperationException: full.")
    static void twoByteRowNeeds11Bytes(Check check) {
        check.due("end with 11 left", twoTold(11).end(2), 2);
        check.refused("end with 10 left", Check.UNSUPPORTED, () -> twoTold(10), log -> log.end(2));
    }

    private static StockLog twoTold(int left) {
        StockLog log = Scenes.left(left);
        log.add(200);
        log.add(100);
        return log;
    }

    @Says("UnsupportedOperationException: full.")
    static void largestDiskIsFullAtItsLastByte(Check check) {
        StockLog log = new StockLog(64);
        for (int number = 1; number <= 226; number++) {
            log.end(1);
        }
        check.due("a row up to the last byte", Scenes.tell(log, 2, 1, 2, 3, 4, 5), 227);
        check.due("all taken", log.count(6), 2048);
        check.refused("one more", Check.UNSUPPORTED, () -> log.end(1));
    }

    @Says("UnsupportedOperationException: full.")
    static void largestDiskIsFullForAByteTooMany(Check check) {
        StockLog log = new StockLog(64);
        for (int number = 1; number <= 226; number++) {
            log.end(1);
        }
        for (int n = 1; n <= 6; n++) {
            log.add(n);
        }
        check.refused("15 bytes for 14", Check.UNSUPPORTED, () -> log.end(2));
        check.due("bytes taken", log.count(6), 2034);
        check.due("bytes told", log.count(4), 6);
        check.due("rows", log.count(1), 226);
    }

    @Says("IllegalStateException: down; UnsupportedOperationException: full.")
    static void downComesBeforeFull(Check check) {
        check.refused("end(1)", Check.ILLEGAL_STATE, Scenes::downAndFull, log -> log.end(1));
    }

    @Says("IllegalStateException: down; UnsupportedOperationException: full.")
    static void anotherKindComesFirst(Check check) {
        for (int kind : OTHER_KINDS) {
            String call = "end(" + kind + ")";
            check.refused(call + " when down", Check.ILLEGAL_ARGUMENT, Scenes::down, log -> log.end(kind));
            check.refused(call + " when full", Check.ILLEGAL_ARGUMENT, Scenes::full, log -> log.end(kind));
            check.refused(call + " when both", Check.ILLEGAL_ARGUMENT, Scenes::downAndFull, log -> log.end(kind));
        }
    }
}
