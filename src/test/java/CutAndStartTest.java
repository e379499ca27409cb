/** Promises 6, 7 and 12: cut, start, wrong. */
public final class CutAndStartTest {
    private static final Check check = new Check();

    public static void main(String[] args) {
        cutAtEveryByte();
        cutWithMask();
        cutLosesMemory();
        cutRefuses();
        startWhenUp();
        startReadsRowsNeverWritten();
        startLeavesWhatIsBehind();
        wrongFirstThatHolds();
        wrongAtTheDisksEnd();
        wrongStates();
        wrongStays();
        check.exit("CutAndStartTest");
    }

    private static StockLog twoInMemory() {
        StockLog log = new StockLog(2);
        Check.tell(log, 1, 11);
        log.sync();
        Check.tell(log, 2, 21, 22);
        Check.tell(log, 3, 31);
        return log;
    }

    private static void cutAtEveryByte() {
        StockLog synced = twoInMemory();
        synced.sync();
        for (int keep = 0; keep <= 21; keep++) {
            StockLog log = twoInMemory();
            log.cut(keep, 0);
            for (int i = 0; i < 64; i++) {
                int due = i < 10 + keep ? Check.place(synced, i) : 0;
                check.due("cut(" + keep + ", 0) byte " + i, Check.place(log, i), due);
            }
            int rows = keep < 11 ? 1 : keep < 21 ? 2 : 3;
            check.due("start after cut(" + keep + ", 0)", log.start(), rows);
            check.due("wrong after cut(" + keep + ", 0)", log.wrong(), wrongAfter(keep));
        }
    }

    private static int wrongAfter(int keep) {
        if (keep == 0 || keep == 11 || keep == 21) {
            return 0;
        }
        int within = keep < 11 ? keep : keep - 11;
        return within == 1 ? 2 : within < 4 ? 3 : 5;
    }

    private static void cutWithMask() {
        StockLog synced = twoInMemory();
        synced.sync();
        for (int mask : new int[] {1, 128, 255}) {
            for (int keep = 0; keep <= 21; keep++) {
                StockLog log = twoInMemory();
                log.poke(31 / 32, 31, 99);
                log.cut(keep, mask);
                String call = "cut(" + keep + ", " + mask + ") byte ";
                for (int i = 0; i < 64; i++) {
                    int old = i < 10 ? Check.place(synced, i) : i == 31 ? 99 : 0;
                    int due = i < 10 + keep ? Check.place(synced, i)
                        : i == 10 + keep && keep < 21 ? Check.place(synced, i) ^ mask : old;
                    check.due(call + i, Check.place(log, i), due);
                }
            }
        }
        StockLog zero = twoInMemory();
        zero.poke(0, 12, 77);
        zero.cut(2, 0);
        check.due("mask 0 leaves the byte", zero.byteOf(0, 12), 77);
        StockLog exact = new StockLog(1);
        Check.tell(exact, 1, new int[20]);
        exact.cut(28, 5);
        check.due("the last byte, altered", exact.byteOf(0, 28) ^ 5, lastSumByte());
    }

    private static int lastSumByte() {
        StockLog log = new StockLog(1);
        Check.forge(log, 0, 1, 1, new int[20]);
        return log.byteOf(0, 28);
    }

    private static void cutLosesMemory() {
        StockLog log = twoInMemory();
        log.whole();
        log.add(1);
        log.cut(11, 0);
        check.due("down", log.count(5), 0);
        check.due("rows that were synced", log.count(1), 1);
        check.due("on the disk", log.count(2), 1);
        check.due("none in memory", log.count(3), 0);
        check.due("none told", log.count(4), 0);
        check.due("bytes of the rows", log.count(6), 10);
        check.due("no whole state", log.count(7), 0);
        check.refused("a row lost", Check.NO_SUCH_ELEMENT, () -> log.row(2, 0));
        check.due("a kind lost", log.find(2, 0), -1);
        check.due("a row there", log.row(1, 10), 11);
        check.due("start", log.start(), 2);
        check.due("up", log.count(5), 1);
        check.due("the row written whole", log.row(2, 11), 22);
        check.due("state behind a cut", log.whole(), 3);
        check.due("lost rows are not counted", log.row(3, 15), 0);
        check.due("the row kept is", log.row(3, 13), 1);
    }

    private static void cutRefuses() {
        StockLog log = twoInMemory();
        log.add(8);
        String before = Check.all(log);
        int[][] pairs = {{22, 0}, {-1, 0}, {0, -1}, {0, 256}, {Integer.MAX_VALUE, 0}, {Integer.MIN_VALUE, 0},
            {0, Integer.MAX_VALUE}, {0, Integer.MIN_VALUE}, {22, 256}};
        for (int[] pair : pairs) {
            check.refused("cut(" + pair[0] + ", " + pair[1] + ")", Check.ILLEGAL_ARGUMENT, () -> cut(log, pair));
        }
        check.same("refused cuts change nothing", Check.all(log), before);
        log.cut(21, 255);
        before = Check.all(log);
        check.refused("cut when down", Check.ILLEGAL_STATE, () -> cut(log, 0, 0));
        check.refused("cut with a mask when down", Check.ILLEGAL_STATE, () -> cut(log, 0, 255));
        check.refused("no bytes in memory when down", Check.ILLEGAL_ARGUMENT, () -> cut(log, 1, 0));
        check.refused("a wrong mask when down", Check.ILLEGAL_ARGUMENT, () -> cut(log, 0, 256));
        check.same("refused cuts when down change nothing", Check.all(log), before);
        StockLog told = new StockLog(1);
        told.add(1);
        check.refused("bytes told are not in memory", Check.ILLEGAL_ARGUMENT, () -> cut(told, 1, 0));
    }

    private static int cut(StockLog log, int... pair) {
        log.cut(pair[0], pair[1]);
        return 0;
    }

    private static void startWhenUp() {
        StockLog log = twoInMemory();
        log.add(5);
        check.due("start when up", log.start(), 1);
        check.due("none told", log.count(4), 0);
        check.due("none in memory", log.count(3), 0);
        check.due("rows", log.count(1), 1);
        check.due("on the disk", log.row(1, 2), 1);
        check.due("up", log.count(5), 1);
        check.due("next number", log.end(4), 2);
        check.due("rows written by a sync behind a start", log.sync(), 1);
        check.due("start again", log.start(), 2);
        check.due("start once more", log.start(), 2);
        check.due("its bytes", log.row(1, 10), 11);
        check.due("rows of a kind lost by it", log.find(3, 0), -1);
    }

    /** Rows that came onto the disk byte by byte, so that nothing but the disk can tell them. */
    private static void startReadsRowsNeverWritten() {
        StockLog log = new StockLog(64);
        int place = 0;
        for (int number = 1; number <= 60; number++) {
            int[] bytes = new int[(number + 19) % 21];
            for (int i = 0; i < bytes.length; i++) {
                bytes[i] = 255 - number - i;
            }
            place = Check.forge(log, place, 1 + number % 4, number, bytes);
        }
        check.due("start", log.start(), 60);
        check.due("bytes of rows", log.count(6), place);
        for (int number = 1; number <= 60; number++) {
            check.due("kind of " + number, log.row(number, 0), 1 + number % 4);
            check.due("length of " + number, log.row(number, 1), (number + 19) % 21);
            for (int i = 0; i < (number + 19) % 21; i++) {
                check.due("row " + number + " byte " + i, log.row(number, 10 + i), 255 - number - i);
            }
        }
        StockLog most = new StockLog(64);
        for (int number = 1; number <= 227; number++) {
            Check.forge(most, 9 * number - 9, 4, number);
        }
        check.due("as many rows as a disk can have", most.start(), 227);
        check.due("the last of them", most.find(4, 226), 227);
        check.refused("no room behind them", Check.UNSUPPORTED, () -> most.end(1));
    }

    private static void startLeavesWhatIsBehind() {
        StockLog log = new StockLog(4);
        Check.tell(log, 1, 1);
        Check.tell(log, 2, 2);
        Check.tell(log, 3, 3);
        log.sync();
        log.poke(0, 15, 1);
        check.due("start", log.start(), 1);
        check.due("bytes stay behind", log.byteOf(0, 20), 90);
        check.due("bytes of rows", log.count(6), 10);
        Check.tell(log, 4, 2);
        log.sync();
        check.due("a row joins what is behind it", log.start(), 3);
        check.due("the row written", log.row(2, 0), 4);
        check.due("the row that stood there", log.row(3, 10), 3);
    }

    private static void wrongFirstThatHolds() {
        judged("no 90, nothing else", 1, log -> log.poke(0, 10, 1));
        judged("a byte far behind zeros", 1, log -> log.poke(1, 31, 1));
        judged("90 alone", 2, log -> Check.force(log, 10, 90));
        judged("kind 6", 2, log -> Check.forge(log, 10, 6, 2, 1));
        judged("kind 0", 2, log -> Check.forge(log, 10, 0, 2, 1));
        judged("kind 6 and number", 2, log -> Check.forge(log, 10, 6, 3, 1));
        judged("number of the row before", 3, log -> Check.forge(log, 10, 1, 1, 1));
        judged("number too great", 3, log -> Check.forge(log, 10, 1, 3, 1));
        judged("number's greater byte", 3, log -> Check.forge(log, 10, 1, 258, 1));
        judged("number and length", 3, log -> Check.forge(log, 10, 1, 3, new int[21]));
        judged("twenty-one bytes", 4, log -> Check.forge(log, 10, 1, 2, new int[21]));
        judged("length and sum", 4, log -> Check.force(log, Check.forge(log, 10, 1, 2, new int[21]) - 1, 1));
        for (int i = 5; i < 10; i++) {
            int place = 10 + i;
            judged("byte " + i + " altered", 5, log -> {
                Check.forge(log, 10, 1, 2, 1);
                log.poke(place / 32, place % 32, 64);
            });
        }
        judged("another kind of the range", 5, log -> {
            Check.forge(log, 10, 1, 2, 1);
            Check.force(log, 11, 4);
        });
        judged("sum and state", 5, log -> log.poke(0, Check.forge(log, 10, 5, 2, 1) - 1, 1));
        judged("state of other bytes", 6, log -> Check.forge(log, 10, 5, 2, 0, 1, 0, 1, 0, 0, 0, 0));
    }

    private interface Change {
        void to(StockLog log);
    }

    /** One row of kind 1 stands in ten bytes; behind it the disk is as the change makes it. */
    private static void judged(String what, int wrong, Change change) {
        StockLog log = new StockLog(2);
        Check.tell(log, 1, 42);
        log.sync();
        change.to(log);
        check.due("start: " + what, log.start(), 1);
        check.due("wrong: " + what, log.wrong(), wrong);
        check.due("count(6): " + what, log.count(6), 10);
    }

    private static void wrongAtTheDisksEnd() {
        for (int left = 0; left <= 12; left++) {
            StockLog log = new StockLog(1);
            int behind = 32 - left;
            int rest = behind > 29 ? behind - 9 : behind;
            int rows = 1;
            Check.forge(log, 0, 1, 1, new int[rest - 9]);
            if (rest != behind) {
                Check.forge(log, rest, 2, ++rows);
            }
            check.due("start with zeros left " + left, log.start(), rows);
            check.due("wrong with zeros left " + left, log.wrong(), 0);
            if (left == 0) {
                continue;
            }
            Check.force(log, behind, 90);
            check.due("start with 90 and left " + left, log.start(), rows);
            check.due("wrong with 90 and left " + left, log.wrong(), left < 5 ? 4 : 2);
            force(log, behind + 1, 1);
            check.due("wrong with a kind and left " + left, restarted(log), left < 5 ? 4 : 3);
            force(log, behind + 3, rows + 1);
            check.due("wrong with a number and left " + left, restarted(log), left < 9 ? 4 : 5);
            force(log, behind + 4, left - 9 >= 0 ? left - 8 : 1);
            check.due("one byte too long for left " + left, restarted(log), 4);
            if (left >= 9) {
                Check.forge(log, behind, 3, rows + 1, new int[left - 9]);
                check.due("start just within left " + left, log.start(), rows + 1);
                check.due("wrong just within left " + left, log.wrong(), 0);
            }
        }
    }

    private static void force(StockLog log, int place, int b) {
        if (place < 32) {
            Check.force(log, place, b);
        }
    }

    private static int restarted(StockLog log) {
        log.start();
        return log.wrong();
    }

    private static void wrongStates() {
        StockLog log = new StockLog(3);
        Check.tell(log, 4);
        Check.tell(log, 2);
        log.whole();
        Check.tell(log, 1);
        log.whole();
        log.sync();
        check.due("states read", log.start(), 5);
        check.due("states counted", log.count(7), 2);
        for (int i = 0; i < 8; i++) {
            int[] state = {0, 0, 0, 1, 0, 0, 0, 1};
            state[i] ^= 3;
            Check.forge(log, 18, 5, 3, state);
            check.due("start with state's byte " + i, log.start(), 2);
            check.due("wrong with state's byte " + i, log.wrong(), 6);
        }
        Check.forge(log, 18, 5, 3, 0, 0, 0, 1, 0, 0, 0);
        check.due("a short state", restarted(log), 6);
        Check.forge(log, 18, 5, 3, 0, 0, 0, 1, 0, 0, 0, 1, 0);
        check.due("a long state", restarted(log), 6);
        Check.forge(log, 18, 5, 3);
        check.due("a state without bytes", restarted(log), 6);
        Check.forge(log, 18, 5, 3, 0, 0, 0, 1, 0, 0, 0, 1);
        check.due("the right state once more", log.wrong() == 6 ? log.start() : -1, 3);
    }

    private static void wrongStays() {
        StockLog log = new StockLog(1);
        log.poke(0, 3, 9);
        check.due("wrong before a start", log.wrong(), 0);
        log.start();
        check.due("wrong of the start", log.wrong(), 1);
        log.poke(0, 3, 9);
        check.due("wrong till the next start", log.wrong(), 1);
        log.end(1);
        log.sync();
        log.cut(0, 0);
        check.due("wrong behind writing and a cut", log.wrong(), 1);
        log.start();
        check.due("wrong of the last start", log.wrong(), 0);
    }
}
