/** Promise 11: find. */
public final class Promise11FindTest {
    public static void main(String[] args) {
        Cases.run(Promise11FindTest.class);
    }

    /** Kinds 1, 2, 5, 2 on the disk and 2, 4, 5 in memory. */
    private static StockLog rows() {
        StockLog log = new StockLog(3);
        log.end(1);
        log.end(2);
        log.whole();
        log.end(2);
        log.sync();
        log.end(2);
        log.end(4);
        log.whole();
        return log;
    }

    private static void found(Check check, int kind, int... numbers) {
        for (int i = 0; i < numbers.length; i++) {
            check.due("find(" + kind + ", " + i + ")", rows().find(kind, i), numbers[i]);
        }
        for (int i : new int[] {numbers.length, numbers.length + 1, Integer.MAX_VALUE}) {
            check.due("find(" + kind + ", " + i + ")", rows().find(kind, i), -1);
        }
    }

    @Says("The number of the i-th row (0, 1, ..) of a kind, in memory or not; -1 if there are not so many.")
    static void smallestKind(Check check) {
        found(check, 1, 1);
    }

    @Says("The number of the i-th row (0, 1, ..) of a kind, in memory or not; -1 if there are not so many.")
    static void rowsOnTheDiskAndInMemory(Check check) {
        found(check, 2, 2, 4, 5);
        found(check, 4, 6);
    }

    @Says("-1 if there are not so many")
    static void noneOfAKind(Check check) {
        found(check, 3);
    }

    @Says("The number of the i-th row (0, 1, ..) of a kind, in memory or not; -1 if there are not so many.")
    static void largestKind(Check check) {
        found(check, 5, 3, 7);
    }

    @Says("-1 if there are not so many")
    static void noRowsAtAll(Check check) {
        for (int kind = 1; kind <= 5; kind++) {
            check.due("find(" + kind + ", 0)", new StockLog(1).find(kind, 0), -1);
            check.due("find(" + kind + ", MAX)", new StockLog(1).find(kind, Integer.MAX_VALUE), -1);
        }
    }

    @Says("-1 if there are not so many")
    static void mostRowsOfADisk(Check check) {
        StockLog log = new StockLog(64);
        for (int number = 1; number <= 227; number++) {
            log.end(4);
        }
        check.due("find(4, 0)", log.find(4, 0), 1);
        check.due("find(4, 226)", log.find(4, 226), 227);
        check.due("find(4, 227)", log.find(4, 227), -1);
    }

    @Says("IllegalArgumentException: kind, or i below 0.")
    static void kindsOnEitherSideAreRefused(Check check) {
        for (int kind : new int[] {0, -1, 6, 7, Integer.MIN_VALUE, Integer.MAX_VALUE}) {
            for (int i : new int[] {0, 1, Integer.MAX_VALUE}) {
                check.refused("find(" + kind + ", " + i + ")", Check.ILLEGAL_ARGUMENT, Scenes::busy,
                    log -> log.find(kind, i));
            }
        }
    }

    @Says("IllegalArgumentException: kind, or i below 0.")
    static void iBelow0IsRefused(Check check) {
        for (int i : new int[] {-1, -2, Integer.MIN_VALUE}) {
            for (int kind = 1; kind <= 5; kind++) {
                int one = kind;
                check.refused("find(" + kind + ", " + i + ")", Check.ILLEGAL_ARGUMENT, Scenes::busy,
                    log -> log.find(one, i));
            }
        }
    }

    @Says("IllegalArgumentException: kind, or i below 0.")
    static void kindAndIAreRefused(Check check) {
        check.refused("find(0, -1)", Check.ILLEGAL_ARGUMENT, Scenes::busy, log -> log.find(0, -1));
        check.refused("find(6, -1)", Check.ILLEGAL_ARGUMENT, Scenes::busy, log -> log.find(6, -1));
    }

    @Says("The number of the i-th row (0, 1, ..) of a kind, in memory or not; -1 if there are not so many.")
    static void lostRowsAreNotFound(Check check) {
        StockLog log = rows();
        log.cut(0, 0);
        check.due("find(2, 1) when down", log.find(2, 1), 4);
        check.due("find(2, 2) when down", log.find(2, 2), -1);
        check.due("find(5, 1) when down", log.find(5, 1), -1);
        check.refused("find(6, 0) when down", Check.ILLEGAL_ARGUMENT, () -> log.find(6, 0));
        log.start();
        check.due("find(2, 1) behind a start", log.find(2, 1), 4);
        check.due("find(4, 0) behind a start", log.find(4, 0), -1);
    }
}
