/** Promises 1 to 5: a new object, add, end, whole, sync. */
public final class WritingTest {
    private static final Check check = new Check();

    public static void main(String[] args) {
        newObject();
        addTells();
        addRefuses();
        endMakesARow();
        endRefuses();
        endWhenFull();
        wholeState();
        wholeRefuses();
        syncWrites();
        syncBehindAltered();
        check.exit("WritingTest");
    }

    private static void newObject() {
        int[][] sectors = {{1, 1}, {2, 2}, {63, 63}, {64, 64}, {65, 64}, {0, 1}, {-1, 1},
            {Integer.MIN_VALUE, 1}, {Integer.MAX_VALUE, 64}};
        for (int[] pair : sectors) {
            StockLog log = new StockLog(pair[0]);
            String made = "new StockLog(" + pair[0] + ") ";
            check.due(made + "sectors", log.count(0), pair[1]);
            check.due(made + "up", log.count(5), 1);
            for (int what : new int[] {1, 2, 3, 4, 6, 7}) {
                check.due(made + "count " + what, log.count(what), 0);
            }
            check.due(made + "wrong", log.wrong(), 0);
            check.same(made + "disk", Check.disk(log), " 0".repeat(32 * pair[1]));
        }
    }

    private static void addTells() {
        StockLog log = new StockLog(2);
        for (int n = 1; n <= 20; n++) {
            check.due("add " + n, log.add(n == 1 ? 0 : 235 + n), n);
            check.due("count(4) after add", log.count(4), n);
        }
        check.due("add makes no row", log.count(1), 0);
        check.due("add takes no memory", log.count(3), 0);
        log.end(1);
        check.due("the least byte", log.row(1, 10), 0);
        check.due("the greatest byte", log.row(1, 29), 255);
        check.due("add begins anew behind a row", log.add(1), 1);
    }

    private static void addRefuses() {
        StockLog log = new StockLog(2);
        for (int b : new int[] {-1, 256, Integer.MIN_VALUE, Integer.MAX_VALUE}) {
            check.refused("add " + b, Check.ILLEGAL_ARGUMENT, () -> log.add(b));
        }
        check.due("none told by refused adds", log.count(4), 0);
        for (int n = 1; n <= 20; n++) {
            log.add(n);
        }
        String before = Check.all(log);
        check.refused("add 21st", Check.UNSUPPORTED, () -> log.add(1));
        check.refused("add 21st out of range", Check.ILLEGAL_ARGUMENT, () -> log.add(256));
        check.same("refused adds change nothing", Check.all(log), before);
        log.cut(0, 0);
        check.refused("add when down", Check.ILLEGAL_STATE, () -> log.add(1));
        check.refused("add out of range when down", Check.ILLEGAL_ARGUMENT, () -> log.add(-1));
        check.due("none told when down", log.count(4), 0);
    }

    private static void endMakesARow() {
        StockLog log = new StockLog(4);
        check.due("end 1", Check.tell(log, 1, 7, 0, 255), 1);
        check.due("end 4", Check.tell(log, 4), 2);
        check.due("end 2", Check.tell(log, 2, 9), 3);
        check.due("told are gone", log.count(4), 0);
        check.due("rows", log.count(1), 3);
        check.due("on the disk", log.count(2), 0);
        check.due("in memory", log.count(3), 12 + 9 + 10);
        check.due("a row's last byte", log.row(1, 12), 255);
        check.due("a row without bytes", log.row(2, 1), 0);
        check.due("a row's kind", log.row(2, 0), 4);
        check.same("the disk is as before", Check.disk(log), " 0".repeat(128));
    }

    private static void endRefuses() {
        StockLog log = new StockLog(1);
        log.add(3);
        log.add(4);
        String before = Check.all(log);
        for (int kind : new int[] {0, 5, 6, -1, Integer.MIN_VALUE, Integer.MAX_VALUE}) {
            check.refused("end " + kind, Check.ILLEGAL_ARGUMENT, () -> log.end(kind));
        }
        check.same("refused ends change nothing", Check.all(log), before);
        log.cut(0, 0);
        check.refused("end when down", Check.ILLEGAL_STATE, () -> log.end(1));
        check.refused("end of a wrong kind when down", Check.ILLEGAL_ARGUMENT, () -> log.end(5));
    }

    private static void endWhenFull() {
        StockLog log = new StockLog(1);
        Check.tell(log, 1, 1, 2, 3, 4, 5, 6, 7);
        for (int n = 0; n < 8; n++) {
            log.add(100 + n);
        }
        String before = Check.all(log);
        check.refused("end for 17 of 16 bytes", Check.UNSUPPORTED, () -> log.end(2));
        check.refused("end of a wrong kind when full", Check.ILLEGAL_ARGUMENT, () -> log.end(0));
        check.same("told stay when full", Check.all(log), before);
        log.start();
        Check.tell(log, 1, 1, 2, 3, 4, 5, 6, 7);
        check.due("a row just within the disk", Check.tell(log, 2, 1, 2, 3, 4, 5, 6, 7), 2);
        check.due("the disk is used up", log.count(6), 32);
        check.refused("no bare row behind it", Check.UNSUPPORTED, () -> log.end(3));
        log.sync();
        check.refused("full behind a sync, too", Check.UNSUPPORTED, () -> log.end(3));
        log.cut(0, 0);
        check.refused("down comes before full", Check.ILLEGAL_STATE, () -> log.end(3));
        check.due("start on a used-up disk", log.start(), 2);
        check.due("nothing wrong behind it", log.wrong(), 0);
    }

    private static void wholeState() {
        StockLog log = new StockLog(8);
        check.due("whole as the first row", log.whole(), 1);
        Check.tell(log, 1);
        Check.tell(log, 3, 5);
        Check.tell(log, 3, 6);
        log.sync();
        Check.tell(log, 4);
        log.add(77);
        check.due("whole", log.whole(), 6);
        check.due("told stay", log.count(4), 1);
        check.due("its kind", log.row(6, 0), 5);
        check.due("its length", log.row(6, 1), 8);
        int[] due = {0, 1, 0, 0, 0, 2, 0, 1};
        for (int i = 0; i < 8; i++) {
            check.due("first state's byte " + i, log.row(1, 10 + i), 0);
            check.due("state's byte " + i, log.row(6, 10 + i), due[i]);
        }
        check.due("it is in memory", log.row(6, 2), 0);
        check.due("whole states", log.count(7), 2);
        log.end(2);
        check.due("the byte told before it", log.row(7, 10), 77);
        log.whole();
        check.due("state counts no state", log.row(8, 11), 1);
        check.due("state counts a row in memory", log.row(8, 13), 1);
    }

    private static void wholeRefuses() {
        StockLog log = new StockLog(1);
        Check.tell(log, 1, 1, 2, 3, 4, 5, 6, 7);
        log.add(1);
        String before = Check.all(log);
        check.refused("whole for 17 of 16 bytes", Check.UNSUPPORTED, log::whole);
        check.same("refused whole changes nothing", Check.all(log), before);
        log.start();
        Check.tell(log, 1, 1, 2, 3, 4, 5, 6);
        check.due("whole just within the disk", log.whole(), 2);
        log.cut(0, 0);
        check.refused("whole when down", Check.ILLEGAL_STATE, log::whole);
        check.due("no row by it", log.count(1), 0);
        StockLog full = new StockLog(1);
        Check.tell(full, 1, new int[20]);
        full.sync();
        full.cut(0, 0);
        check.refused("whole when down and full", Check.ILLEGAL_STATE, full::whole);
    }

    private static void syncWrites() {
        StockLog log = new StockLog(3);
        check.due("sync of nothing", log.sync(), 0);
        Check.tell(log, 2, 200, 1);
        Check.tell(log, 3);
        log.add(50);
        check.due("sync", log.sync(), 2);
        check.due("told stay at a sync", log.count(4), 1);
        check.due("on the disk", log.count(2), 2);
        check.due("none in memory", log.count(3), 0);
        check.due("row on the disk", log.row(2, 2), 1);
        StockLog forged = new StockLog(3);
        Check.forge(forged, Check.forge(forged, 0, 2, 1, 200, 1), 3, 2);
        check.same("the rows' bytes", Check.disk(log), Check.disk(forged));
        check.due("sync again", log.sync(), 0);
        log.end(4);
        check.due("sync of one more", log.sync(), 1);
        Check.forge(forged, 20, 4, 3, 50);
        check.same("bytes across sectors", Check.disk(log), Check.disk(forged));
        log.cut(0, 0);
        check.refused("sync when down", Check.ILLEGAL_STATE, log::sync);
        check.same("refused sync writes nothing", Check.disk(log), Check.disk(forged));
    }

    private static void syncBehindAltered() {
        StockLog log = new StockLog(2);
        Check.tell(log, 1, 5);
        log.sync();
        log.poke(0, 5, 3);
        log.poke(0, 12, 255);
        Check.tell(log, 1, 6);
        log.sync();
        check.due("sync leaves rows that stand there", log.byteOf(0, 5), 6);
        check.due("sync writes over what is behind", log.byteOf(0, 12), 0);
        check.due("row as it was told", log.row(1, 10), 5);
        log.poke(0, 5, 3);
        check.due("start reads both", log.start(), 2);
    }
}
