/** Promise 15: total. */
public final class Promise15TotalTest {
    public static void main(String[] args) {
        Cases.run(Promise15TotalTest.class);
    }

    /** Rows 1 to 3 on the disk, 4 to 6 in memory: kinds 1, 2, 5, 2, 4, 5. */
    private static StockLog rows() {
        StockLog log = new StockLog(3);
        Scenes.tell(log, 1, 10, 20);
        Scenes.tell(log, 2, 255);
        log.whole();
        log.sync();
        Scenes.tell(log, 2, 1, 2, 3);
        Scenes.tell(log, 4);
        log.whole();
        return log;
    }

    private static void total(Check check, int kind, int from, int to, int due) {
        check.due("total(" + kind + ", " + from + ", " + to + ")", rows().total(kind, from, to), due);
    }

    @Says("The sum of rows' bytes of a kind with numbers from one to another one (both counted), in memory or not.")
    static void eachKind(Check check) {
        total(check, 1, 1, 6, 30);
        total(check, 2, 1, 6, 261);
        total(check, 3, 1, 6, 0);
        total(check, 4, 1, 6, 0);
        total(check, 5, 1, 6, 6);
    }

    @Says("with numbers from one to another one (both counted)")
    static void bothEndsAreCounted(Check check) {
        total(check, 2, 2, 4, 261);
        total(check, 2, 3, 4, 6);
        total(check, 2, 2, 3, 255);
        total(check, 2, 3, 3, 0);
    }

    @Says("with numbers from one to another one (both counted)")
    static void oneRowAlone(Check check) {
        total(check, 1, 1, 1, 30);
        total(check, 2, 2, 2, 255);
        total(check, 5, 6, 6, 4);
        total(check, 2, 1, 1, 0);
    }

    @Says("with numbers from one to another one (both counted)")
    static void fromBehindToIsNothing(Check check) {
        total(check, 2, 4, 2, 0);
        total(check, 2, 5, 4, 0);
        total(check, 2, Integer.MAX_VALUE, Integer.MIN_VALUE, 0);
    }

    @Says("with numbers from one to another one (both counted)")
    static void numbersThatNoRowHas(Check check) {
        total(check, 2, 0, 2, 255);
        total(check, 2, -5, 6, 261);
        total(check, 2, 0, 0, 0);
        total(check, 2, -9, -1, 0);
        total(check, 5, 6, 7, 4);
        total(check, 5, 7, 7, 0);
        total(check, 2, 7, Integer.MAX_VALUE, 0);
    }

    @Says("with numbers from one to another one (both counted)")
    static void smallestAndLargestNumbers(Check check) {
        total(check, 2, Integer.MIN_VALUE, Integer.MAX_VALUE, 261);
        total(check, 2, Integer.MIN_VALUE, Integer.MIN_VALUE, 0);
        total(check, 2, Integer.MAX_VALUE, Integer.MAX_VALUE, 0);
        total(check, 1, Integer.MIN_VALUE, 1, 30);
        total(check, 5, 6, Integer.MAX_VALUE, 4);
    }

    @Says("The sum of rows' bytes of a kind")
    static void noRowsAtAll(Check check) {
        for (int kind = 1; kind <= 5; kind++) {
            check.due("total", new StockLog(1).total(kind, Integer.MIN_VALUE, Integer.MAX_VALUE), 0);
        }
    }

    @Says("The sum of rows' bytes of a kind")
    static void bytesToldAreOfNoRow(Check check) {
        StockLog log = Scenes.busy();
        check.due("total(1, 1, 9)", log.total(1, 1, 9), 23);
    }

    @Says("The sum of rows' bytes of a kind")
    static void largeSum(Check check) {
        StockLog log = new StockLog(64);
        for (int number = 1; number <= 24; number++) {
            for (int n = 0; n < 20; n++) {
                log.add(255);
            }
            log.end(3);
        }
        check.due("total", log.total(3, 1, 24), 122400);
    }

    @Says("The sum of rows' bytes of a kind with numbers from one to another one (both counted), in memory or not.")
    static void lostRowsAreNotCounted(Check check) {
        StockLog log = rows();
        log.cut(0, 0);
        check.due("total when down", log.total(2, 1, 9), 255);
        check.refused("another kind when down", Check.ILLEGAL_ARGUMENT, () -> log.total(6, 1, 9));
        log.start();
        check.due("total behind a start", log.total(2, 1, 9), 255);
    }

    @Says("IllegalArgumentException: kind.")
    static void kindsOnEitherSideAreRefused(Check check) {
        for (int kind : new int[] {0, -1, 6, 7, Integer.MIN_VALUE, Integer.MAX_VALUE}) {
            check.refused("total(" + kind + ", 1, 4)", Check.ILLEGAL_ARGUMENT, Scenes::busy,
                log -> log.total(kind, 1, 4));
            check.refused("total(" + kind + ", 0, 0)", Check.ILLEGAL_ARGUMENT, Scenes::busy,
                log -> log.total(kind, 0, 0));
        }
    }

    @Says("in memory or not")
    static void askingChangesNothing(Check check) {
        StockLog log = Scenes.busy();
        log.total(5, 1, 4);
        check.same("all", Scenes.all(log), Scenes.all(Scenes.busy()));
    }
}
