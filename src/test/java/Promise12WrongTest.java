/** Promise 12: wrong. */
public final class Promise12WrongTest {
    private static final String LIST = "0 nothing but zeros, or the first that holds: 1 no 90; 4 the disk ends before "
        + "how many bytes it has; 2 another kind; 3 another number; 4 more than twenty bytes, or the disk ends before "
        + "its end; 5 another sum; 6 of kind 5 other bytes.";

    public static void main(String[] args) {
        Cases.run(Promise12WrongTest.class);
    }

    private interface Change {
        void to(StockLog log);
    }

    /** One row of kind 1 stands in ten bytes of two sectors; behind it the disk is as the change makes it. */
    private static void judged(Check check, String what, int due, Change change) {
        StockLog log = new StockLog(2);
        Scenes.tell(log, 1, 42);
        log.sync();
        change.to(log);
        check.due("start, " + what, log.start(), 1);
        check.due("wrong, " + what, log.wrong(), due);
        check.due("bytes of rows, " + what, log.count(6), 10);
    }

    /** A row that takes all but the last bytes of one sector (3 to 23), and behind it these bytes. */
    private static void judgedAtTheEnd(Check check, int left, int due, int... bytes) {
        StockLog log = Scenes.left(left);
        for (int i = 0; i < left && i < bytes.length; i++) {
            Disk.force(log, 32 - left + i, bytes[i]);
        }
        check.due("start, " + left + " left", log.start(), 1);
        check.due("wrong, " + left + " left", log.wrong(), due);
        check.due("bytes of rows, " + left + " left", log.count(6), 32 - left);
    }

    /** Two rows that leave just so many bytes of a sector (0 to 2), which one row alone can't. */
    private static StockLog fewLeft(int left) {
        StockLog log = Scenes.left(11 + left);
        Scenes.tell(log, 2, 1, 2);
        log.sync();
        return log;
    }

    @Says("(0 before a start.)")
    static void noStartIsNothing(Check check) {
        StockLog log = new StockLog(1);
        check.due("at first", log.wrong(), 0);
        log.poke(0, 3, 9);
        check.due("bytes altered", log.wrong(), 0);
        log.end(1);
        log.cut(3, 5);
        check.due("behind a cut", log.wrong(), 0);
        log.start();
        check.due("behind a start", log.wrong(), 3);
    }

    @Says("0 nothing but zeros")
    static void nothingOnTheDisk(Check check) {
        for (int sectors : new int[] {1, 64}) {
            StockLog log = new StockLog(sectors);
            log.start();
            check.due("wrong", log.wrong(), 0);
        }
    }

    @Says("0 nothing but zeros")
    static void zerosBehindTheRows(Check check) {
        for (int left = 3; left <= 23; left++) {
            judgedAtTheEnd(check, left, 0);
        }
        for (int left = 1; left <= 2; left++) {
            StockLog log = fewLeft(left);
            check.due("start, " + left + " left", log.start(), 2);
            check.due("wrong, " + left + " left", log.wrong(), 0);
        }
    }

    @Says("0 nothing but zeros")
    static void nothingBehindTheRows(Check check) {
        StockLog log = fewLeft(0);
        check.due("start", log.start(), 2);
        check.due("wrong", log.wrong(), 0);
        check.due("all taken", log.count(6), 32);
    }

    @Says("0 nothing but zeros, or the first that holds: 1 no 90")
    static void lastByteOfTheDiskIsNoZero(Check check) {
        judged(check, "the last byte", 1, log -> log.poke(1, 31, 1));
        StockLog log = new StockLog(64);
        log.poke(63, 31, 128);
        log.start();
        check.due("the last byte of the largest disk", log.wrong(), 1);
        StockLog one = fewLeft(1);
        one.poke(0, 31, 1);
        check.due("start, 1 left", one.start(), 2);
        check.due("wrong, 1 left", one.wrong(), 1);
    }

    @Says("1 no 90")
    static void no90(Check check) {
        for (int b : new int[] {1, 89, 91, 128, 255}) {
            judged(check, "the byte " + b, 1, log -> Disk.force(log, 10, b));
        }
        judged(check, "0 before bytes that are not", 1, log -> Disk.force(log, 11, 90));
        judged(check, "a whole row a byte too late", 1, log -> Disk.forge(log, 11, 1, 2, 7));
    }

    @Says("4 the disk ends before how many bytes it has")
    static void diskEndsBeforeHowManyBytes(Check check) {
        judgedAtTheEnd(check, 3, 4, 90, 1, 0);
        judgedAtTheEnd(check, 4, 4, 90, 1, 0, 2);
        for (int left = 1; left <= 2; left++) {
            StockLog log = fewLeft(left);
            Disk.force(log, 32 - left, 90);
            check.due("start, " + left + " left", log.start(), 2);
            check.due("wrong, " + left + " left", log.wrong(), 4);
        }
    }

    @Says("4 the disk ends before how many bytes it has; 2 another kind")
    static void diskEndsBehindHowManyBytes(Check check) {
        judgedAtTheEnd(check, 5, 2, 90, 0, 0, 2, 0);
        judgedAtTheEnd(check, 5, 3, 90, 1, 0, 1, 0);
        judgedAtTheEnd(check, 5, 4, 90, 1, 0, 2, 0);
    }

    @Says("2 another kind")
    static void kind0And6(Check check) {
        for (int kind : new int[] {0, 6, 7, 128, 255}) {
            judged(check, "kind " + kind, 2, log -> Disk.forge(log, 10, kind, 2, 7));
        }
        judged(check, "90 alone", 2, log -> Disk.force(log, 10, 90));
    }

    @Says("2 another kind; 3 another number")
    static void kinds1To5AreNoOtherKind(Check check) {
        for (int kind = 1; kind <= 5; kind++) {
            int one = kind;
            judged(check, "kind " + kind, 3, log -> Disk.forge(log, 10, one, 3, 7));
        }
    }

    @Says("3 another number")
    static void numberOnEitherSide(Check check) {
        for (int number : new int[] {0, 1, 3, 4, 256, 257, 258, 512, 65535}) {
            judged(check, "number " + number, 3, log -> Disk.forge(log, 10, 1, number, 7));
        }
    }

    @Says("4 more than twenty bytes")
    static void bytesFrom20To21(Check check) {
        judged(check, "21 bytes", 4, log -> Disk.forge(log, 10, 1, 2, new int[21]));
        judged(check, "255 bytes", 4, log -> {
            Disk.forge(log, 10, 1, 2);
            Disk.force(log, 14, 255);
        });
        judged(check, "20 bytes and another sum", 5, log -> {
            Disk.forge(log, 10, 1, 2, new int[20]);
            log.poke(0, 15, 1);
        });
    }

    @Says("or the disk ends before its end")
    static void diskEndsBeforeTheRowsEnd(Check check) {
        for (int left = 5; left <= 23; left++) {
            judgedAtTheEnd(check, left, 4, Disk.row(1, 2, new int[Math.max(0, left - 8)]));
        }
        judgedAtTheEnd(check, 20, 4, 90, 1, 0, 2, 20);
    }

    @Says("or the disk ends before its end; 5 another sum")
    static void diskEndsWithTheRowsEnd(Check check) {
        for (int left = 9; left <= 23; left++) {
            int[] row = Disk.row(1, 2, new int[left - 9]);
            row[left - 1] ^= 1;
            judgedAtTheEnd(check, left, 5, row);
        }
    }

    @Says("5 another sum")
    static void eachByteThatIsSummed(Check check) {
        for (int i = 5; i < 11; i++) {
            int place = 10 + i;
            judged(check, "byte " + i, 5, log -> {
                Disk.forge(log, 10, 1, 2, 7, 8);
                log.poke(0, place, 64);
            });
        }
        judged(check, "another kind of the range", 5, log -> {
            Disk.forge(log, 10, 1, 2, 7);
            Disk.force(log, 11, 4);
        });
        judged(check, "another length of the range", 5, log -> {
            Disk.forge(log, 10, 1, 2, 7);
            Disk.force(log, 14, 0);
        });
    }

    @Says("6 of kind 5 other bytes")
    static void eachByteOfAState(Check check) {
        for (int i = 0; i < 8; i++) {
            int[] state = {0, 1, 0, 0, 0, 0, 0, 0};
            state[i] ^= 3;
            judged(check, "state with another byte " + i, 6, log -> Disk.forge(log, 10, 5, 2, state));
        }
    }

    @Says("6 of kind 5 other bytes")
    static void stateOfAnotherLength(Check check) {
        judged(check, "no bytes", 6, log -> Disk.forge(log, 10, 5, 2));
        judged(check, "7 bytes", 6, log -> Disk.forge(log, 10, 5, 2, 0, 1, 0, 0, 0, 0, 0));
        judged(check, "9 bytes", 6, log -> Disk.forge(log, 10, 5, 2, 0, 1, 0, 0, 0, 0, 0, 0, 0));
        judged(check, "20 bytes", 6, log -> {
            int[] bytes = new int[20];
            bytes[1] = 1;
            Disk.forge(log, 10, 5, 2, bytes);
        });
    }

    @Says("6 of kind 5 other bytes")
    static void stateAfterARowThatWasAltered(Check check) {
        StockLog log = new StockLog(2);
        log.end(1);
        log.end(2);
        log.whole();
        log.sync();
        check.due("start", log.start(), 3);
        Disk.forge(log, 9, 3, 2);
        check.due("start with another kind before it", log.start(), 2);
        check.due("wrong", log.wrong(), 6);
        Disk.forge(log, 9, 2, 2);
        check.due("start as it was", log.start(), 3);
        check.due("wrong as it was", log.wrong(), 0);
    }

    @Says(LIST)
    static void no90ComesBeforeTheDisksEnd(Check check) {
        judgedAtTheEnd(check, 3, 1, 89, 1, 0);
        judgedAtTheEnd(check, 4, 1, 0, 0, 0, 1);
    }

    @Says(LIST)
    static void no90ComesBeforeAllOthers(Check check) {
        judged(check, "no 90, kind 6, number 9, 21 bytes", 1, log -> {
            Disk.forge(log, 10, 6, 9, new int[21]);
            log.poke(0, 10, 1);
        });
    }

    @Says(LIST)
    static void disksEndComesBeforeAnotherKind(Check check) {
        judgedAtTheEnd(check, 4, 4, 90, 6, 0, 2);
        judgedAtTheEnd(check, 3, 4, 90, 0, 0);
    }

    @Says(LIST)
    static void disksEndComesBeforeAnotherNumber(Check check) {
        judgedAtTheEnd(check, 4, 4, 90, 1, 0, 9);
        judgedAtTheEnd(check, 3, 4, 90, 1, 7);
    }

    @Says(LIST)
    static void anotherKindComesBeforeAnotherNumber(Check check) {
        judged(check, "kind 6, number 9", 2, log -> Disk.forge(log, 10, 6, 9, 7));
    }

    @Says(LIST)
    static void anotherKindComesBeforeTooManyBytes(Check check) {
        judged(check, "kind 6, 21 bytes", 2, log -> Disk.forge(log, 10, 6, 2, new int[21]));
        judgedAtTheEnd(check, 8, 2, 90, 6, 0, 2, 0);
    }

    @Says(LIST)
    static void anotherNumberComesBeforeTooManyBytes(Check check) {
        judged(check, "number 9, 21 bytes", 3, log -> Disk.forge(log, 10, 1, 9, new int[21]));
        judgedAtTheEnd(check, 8, 3, 90, 1, 0, 9, 0);
    }

    @Says(LIST)
    static void anotherNumberComesBeforeAnotherSum(Check check) {
        judged(check, "number 9 and no sum", 3, log -> {
            Disk.forge(log, 10, 1, 9, 7);
            log.poke(0, 19, 1);
        });
    }

    @Says(LIST)
    static void tooManyBytesComeBeforeAnotherSum(Check check) {
        judged(check, "21 bytes and another sum", 4, log -> {
            int behind = Disk.forge(log, 10, 1, 2, new int[21]);
            Disk.force(log, behind - 1, 1);
        });
    }

    @Says(LIST)
    static void tooManyBytesComeBeforeAnotherState(Check check) {
        judged(check, "a state of 21 bytes", 4, log -> Disk.forge(log, 10, 5, 2, new int[21]));
    }

    @Says(LIST)
    static void anotherSumComesBeforeAnotherState(Check check) {
        judged(check, "a state of other bytes and another sum", 5, log -> {
            int behind = Disk.forge(log, 10, 5, 2, 0, 9, 0, 0, 0, 0, 0, 0);
            log.poke(0, behind - 1, 1);
        });
    }

    @Says("What the last start found behind the rows that it read")
    static void staysTillTheNextStart(Check check) {
        StockLog log = new StockLog(1);
        log.poke(0, 3, 9);
        log.start();
        check.due("behind a start", log.wrong(), 1);
        log.poke(0, 3, 9);
        check.due("behind a poke", log.wrong(), 1);
        log.end(1);
        log.sync();
        check.due("behind a sync", log.wrong(), 1);
        log.cut(0, 0);
        check.due("behind a cut", log.wrong(), 1);
        log.start();
        check.due("behind the next start", log.wrong(), 0);
    }

    @Says("What the last start found behind the rows that it read")
    static void restoreIsAStartToo(Check check) {
        StockLog log = new StockLog(1);
        log.poke(0, 3, 9);
        log.backup();
        log.poke(0, 3, 9);
        log.start();
        check.due("behind a start", log.wrong(), 0);
        log.restore();
        check.due("behind a restore", log.wrong(), 1);
    }

    @Says("What the last start found behind the rows that it read")
    static void eachCutOfARow(Check check) {
        int[] due = {0, 2, 3, 3, 5, 5, 5, 5, 5, 5, 5, 0};
        for (int keep = 0; keep < due.length; keep++) {
            StockLog log = new StockLog(2);
            Scenes.tell(log, 2, 21, 22);
            log.cut(keep, 0);
            check.due("start behind cut(" + keep + ", 0)", log.start(), keep == 11 ? 1 : 0);
            check.due("wrong behind cut(" + keep + ", 0)", log.wrong(), due[keep]);
        }
    }
}
