/** Promise 4: whole. */
public final class Promise04WholeTest {
    public static void main(String[] args) {
        Cases.run(Promise04WholeTest.class);
    }

    @Says("A whole state, as a row of kind 5: its number.")
    static void firstRowCanBeAState(Check check) {
        StockLog log = new StockLog(1);
        check.due("whole", log.whole(), 1);
        check.row(log, 1, 5, 0, 0, 0, 0, 0, 0, 0, 0);
        check.counts("behind it", log, 1, 1, 0, 17, 0, 1, 17, 1);
    }

    @Says("A whole state, as a row of kind 5: its number.")
    static void stateBehindOtherRows(Check check) {
        StockLog log = Scenes.busy();
        check.due("whole", log.whole(), 5);
        check.row(log, 5, 5, 0, 1, 0, 1, 0, 0, 0, 1);
        check.due("it is in memory", log.row(5, 2), 0);
        check.due("states", log.count(7), 2);
    }

    @Says("The bytes told stay.")
    static void noBytesToldStayNone(Check check) {
        StockLog log = new StockLog(2);
        log.whole();
        check.due("bytes told", log.count(4), 0);
        log.end(1);
        check.row(log, 2, 1);
    }

    @Says("The bytes told stay.")
    static void twentyBytesToldStay(Check check) {
        StockLog log = Scenes.twentyTold();
        log.whole();
        check.due("bytes told", log.count(4), 20);
        log.end(2);
        check.row(log, 6, 2, 31, 32, 3, 4, 5, 6, 7, 8, 9, 10, 11, 12, 13, 14, 15, 16, 17, 18, 19, 20);
    }

    @Says("IllegalStateException, UnsupportedOperationException likewise.")
    static void downIsRefused(Check check) {
        check.refused("whole", Check.ILLEGAL_STATE, Scenes::down, StockLog::whole);
    }

    @Says("IllegalStateException, UnsupportedOperationException likewise.")
    static void stateNeeds17Bytes(Check check) {
        StockLog log = Scenes.left(17);
        check.due("whole with 17 left", log.whole(), 2);
        check.due("all taken", log.count(6), 32);
        for (int left = 3; left <= 16; left++) {
            int few = left;
            check.refused("whole with " + few + " left", Check.UNSUPPORTED, () -> Scenes.left(few), StockLog::whole);
        }
    }

    @Says("IllegalStateException, UnsupportedOperationException likewise.")
    static void stateNeedsNoRoomForBytesTold(Check check) {
        StockLog log = Scenes.left(17);
        for (int n = 1; n <= 9; n++) {
            log.add(n);
        }
        check.refused("end for 18 of 17 bytes", Check.UNSUPPORTED, () -> log.end(1));
        check.due("whole for 17 of 17 bytes", log.whole(), 2);
        check.due("bytes told", log.count(4), 9);
    }

    @Says("IllegalStateException, UnsupportedOperationException likewise.")
    static void noByteLeftIsRefused(Check check) {
        check.refused("whole", Check.UNSUPPORTED, Scenes::full, StockLog::whole);
    }

    @Says("IllegalStateException, UnsupportedOperationException likewise.")
    static void downComesBeforeFull(Check check) {
        check.refused("whole", Check.ILLEGAL_STATE, Scenes::downAndFull, StockLog::whole);
    }

    @Says("A whole state, as a row of kind 5: its number.")
    static void mostStatesOnADisk(Check check) {
        StockLog log = new StockLog(64);
        for (int number = 1; number <= 120; number++) {
            check.due("whole", log.whole(), number);
        }
        check.refused("no state 121", Check.UNSUPPORTED, log::whole);
        check.counts("of states alone", log, 64, 120, 0, 2040, 0, 1, 2040, 120);
        log.sync();
        check.due("start", log.start(), 120);
        check.due("states", log.count(7), 120);
    }
}
