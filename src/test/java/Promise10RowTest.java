/** Promise 10: row. */
public final class Promise10RowTest {
    public static void main(String[] args) {
        Cases.run(Promise10RowTest.class);
    }

    @Says("Of a row by its number (in memory or not) 0 its kind, 1 how many bytes")
    static void kindAndLengthOfEachRow(Check check) {
        StockLog log = Scenes.busy();
        int[][] due = {{1, 2}, {4, 0}, {2, 1}, {5, 8}};
        for (int number = 1; number <= 4; number++) {
            check.due("row(" + number + ", 0)", log.row(number, 0), due[number - 1][0]);
            check.due("row(" + number + ", 1)", log.row(number, 1), due[number - 1][1]);
        }
    }

    @Says("2 whether it is on the disk")
    static void onTheDiskOrInMemory(Check check) {
        StockLog log = Scenes.busy();
        int[] due = {1, 1, 0, 0};
        for (int number = 1; number <= 4; number++) {
            check.due("row(" + number + ", 2)", log.row(number, 2), due[number - 1]);
        }
        log.sync();
        check.due("row(3, 2) behind a sync", log.row(3, 2), 1);
        check.due("row(4, 2) behind a sync", log.row(4, 2), 1);
        log.start();
        check.due("row(4, 2) behind a start", log.row(4, 2), 1);
    }

    @Says("10 and up: its bytes")
    static void firstAndLastByteOfTwenty(Check check) {
        StockLog log = Scenes.twentyTold();
        log.end(1);
        check.due("row(5, 10)", log.row(5, 10), 31);
        check.due("row(5, 11)", log.row(5, 11), 32);
        check.due("row(5, 29)", log.row(5, 29), 20);
        check.refused("row(5, 30)", Check.NO_SUCH_ELEMENT, () -> log.row(5, 30));
    }

    @Says("10 and up: its bytes")
    static void bytesFromTheSmallestToTheLargest(Check check) {
        StockLog log = new StockLog(1);
        Scenes.tell(log, 1, 0, 255);
        check.due("row(1, 10)", log.row(1, 10), 0);
        check.due("row(1, 11)", log.row(1, 11), 255);
        log.sync();
        log.start();
        check.due("row(1, 10) behind a start", log.row(1, 10), 0);
        check.due("row(1, 11) behind a start", log.row(1, 11), 255);
    }

    @Says("10 and up: its bytes")
    static void bytesOfAState(Check check) {
        StockLog log = Scenes.busy();
        check.row(log, 4, 5, 0, 1, 0, 1, 0, 0, 0, 1);
    }

    @Says("NoSuchElementException: no such row, or byte")
    static void numbersOnEitherSideAreRefused(Check check) {
        check.due("row(1, 0)", Scenes.busy().row(1, 0), 1);
        check.due("row(4, 0)", Scenes.busy().row(4, 0), 5);
        for (int number : new int[] {0, -1, 5, 6, 256, Integer.MIN_VALUE, Integer.MAX_VALUE}) {
            for (int what : new int[] {0, 1, 2, 10}) {
                check.refused("row(" + number + ", " + what + ")", Check.NO_SUCH_ELEMENT, Scenes::busy,
                    log -> log.row(number, what));
            }
        }
    }

    @Says("NoSuchElementException: no such row, or byte")
    static void noRowsAtAll(Check check) {
        for (int what : new int[] {0, 1, 2, 3, 10}) {
            check.refused("row(1, " + what + ")", Check.NO_SUCH_ELEMENT, Scenes::fresh, log -> log.row(1, what));
            check.refused("row(0, " + what + ")", Check.NO_SUCH_ELEMENT, Scenes::fresh, log -> log.row(0, what));
        }
    }

    @Says("NoSuchElementException: no such row, or byte")
    static void bytesToldAreNoRow(Check check) {
        StockLog log = new StockLog(1);
        log.add(1);
        check.refused("row(1, 0)", Check.NO_SUCH_ELEMENT, () -> log.row(1, 0));
    }

    @Says("NoSuchElementException: no such row, or byte")
    static void byteBehindTheLastIsRefused(Check check) {
        int[] behind = {12, 10, 11, 18};
        for (int number = 1; number <= 4; number++) {
            int one = number;
            for (int what : new int[] {behind[number - 1], 30, 1000, Integer.MAX_VALUE}) {
                check.refused("row(" + one + ", " + what + ")", Check.NO_SUCH_ELEMENT, Scenes::busy,
                    log -> log.row(one, what));
            }
        }
    }

    @Says("IllegalArgumentException for another what")
    static void anotherWhatIsRefused(Check check) {
        for (int number = 1; number <= 4; number++) {
            int one = number;
            for (int what : new int[] {-1, 3, 4, 8, 9, -10, Integer.MIN_VALUE}) {
                check.refused("row(" + one + ", " + what + ")", Check.ILLEGAL_ARGUMENT, Scenes::busy,
                    log -> log.row(one, what));
            }
        }
    }

    @Says("NoSuchElementException: no such row, or byte; IllegalArgumentException for another what.")
    static void noSuchRowComesBeforeAnotherWhat(Check check) {
        for (int number : new int[] {0, 5, Integer.MIN_VALUE, Integer.MAX_VALUE}) {
            for (int what : new int[] {-1, 3, 9, Integer.MIN_VALUE}) {
                check.refused("row(" + number + ", " + what + ")", Check.NO_SUCH_ELEMENT, Scenes::busy,
                    log -> log.row(number, what));
            }
        }
    }

    @Says("Of a row by its number (in memory or not)")
    static void rowsOnTheDiskAreToldWhenDown(Check check) {
        StockLog log = Scenes.down();
        check.row(log, 1, 1, 11, 12);
        check.row(log, 2, 4);
        check.due("row(2, 2)", log.row(2, 2), 1);
        check.refused("row(3, 0)", Check.NO_SUCH_ELEMENT, Scenes::down, same -> same.row(3, 0));
        check.refused("row(1, 3)", Check.ILLEGAL_ARGUMENT, Scenes::down, same -> same.row(1, 3));
    }

    @Says("Of a row by its number (in memory or not)")
    static void askingChangesNothing(Check check) {
        StockLog log = Scenes.busy();
        log.row(1, 0);
        log.row(3, 1);
        log.row(4, 2);
        log.row(4, 17);
        check.same("all", Scenes.all(log), Scenes.all(Scenes.busy()));
    }
}
