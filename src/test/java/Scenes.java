/** Objects in the states that the cases begin with; each is small enough to be asked for all within 512 calls. */
final class Scenes {
    private Scenes() {
    }

    /** Tells the bytes and ends the row: its number. */
    static int tell(StockLog log, int kind, int... bytes) {
        for (int b : bytes) {
            log.add(b);
        }
        return log.end(kind);
    }

    static int cut(StockLog log, int keep, int mask) {
        log.cut(keep, mask);
        return 0;
    }

    static StockLog fresh() {
        return new StockLog(2);
    }

    /**
     * Something of everything: rows 1 and 2 in 20 bytes on the disk, rows 3 and 4 (a state) in 27 bytes in memory,
     * two bytes told, a backup of row 1, and a byte behind all rows that the last start found wrong.
     */
    static StockLog busy() {
        StockLog log = new StockLog(3);
        tell(log, 1, 11, 12);
        log.sync();
        log.backup();
        log.poke(2, 31, 7);
        log.start();
        tell(log, 4);
        log.sync();
        tell(log, 2, 21);
        log.whole();
        log.add(31);
        log.add(32);
        return log;
    }

    /** The busy one behind a cut within row 3. */
    static StockLog down() {
        StockLog log = busy();
        log.cut(5, 255);
        return log;
    }

    static StockLog twentyTold() {
        StockLog log = busy();
        for (int n = 3; n <= 20; n++) {
            log.add(n);
        }
        return log;
    }

    /** One sector, all 32 bytes taken: row 1 on the disk, row 2 in memory; one byte told. */
    static StockLog full() {
        StockLog log = new StockLog(1);
        tell(log, 1, 1, 2, 3, 4, 5, 6, 7, 8, 9, 10, 11, 12, 13, 14);
        log.sync();
        log.backup();
        tell(log, 2);
        log.add(5);
        return log;
    }

    static StockLog downAndFull() {
        StockLog log = full();
        log.sync();
        log.cut(0, 0);
        return log;
    }

    /** A row of so many bytes on the disk that just so many bytes of its one sector are left (3 to 23). */
    static StockLog left(int left) {
        StockLog log = new StockLog(1);
        tell(log, 1, new int[32 - 9 - left]);
        log.sync();
        return log;
    }

    /** All of an object that can be asked for. */
    static String all(StockLog log) {
        StringBuilder text = new StringBuilder("counts");
        for (int what = 0; what <= 7; what++) {
            text.append(' ').append(log.count(what));
        }
        text.append(" wrong ").append(log.wrong());
        for (int number = 1; number <= log.count(1); number++) {
            text.append(row(log, number));
        }
        for (int kind = 1; kind <= 5; kind++) {
            text.append(" kind ").append(kind).append(" first ").append(log.find(kind, 0));
            text.append(" total ").append(log.total(kind, 1, 9));
        }
        return text.append(" disk").append(Disk.text(log)).toString();
    }

    private static String row(StockLog log, int number) {
        StringBuilder text = new StringBuilder(" [");
        for (int what = 0; what <= 2; what++) {
            text.append(log.row(number, what)).append(' ');
        }
        int length = log.row(number, 1);
        for (int i = 0; i < length; i++) {
            text.append(log.row(number, 10 + i)).append(' ');
        }
        return text.append(']').toString();
    }
}
