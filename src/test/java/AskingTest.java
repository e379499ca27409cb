/** Promises 10, 11, 15 and 16: row, find, total, count. */
public final class AskingTest {
    private static final Check check = new Check();

    public static void main(String[] args) {
        rowTells();
        rowRefuses();
        findTells();
        findRefuses();
        totalTells();
        totalRefuses();
        countTells();
        askingWhenDown();
        askingChangesNothing();
        check.exit("AskingTest");
    }

    /** Rows 1 to 3 on the disk, 4 to 6 in memory: kinds 1, 2, 5, 2, 4, 5. */
    private static StockLog sixRows() {
        StockLog log = new StockLog(4);
        Check.tell(log, 1, 10, 20);
        Check.tell(log, 2, 255);
        log.whole();
        log.sync();
        Check.tell(log, 2, 1, 2, 3);
        Check.tell(log, 4);
        log.whole();
        return log;
    }

    private static void rowTells() {
        StockLog log = sixRows();
        int[][] due = {{1, 2, 1}, {2, 1, 1}, {5, 8, 1}, {2, 3, 0}, {4, 0, 0}, {5, 8, 0}};
        for (int number = 1; number <= 6; number++) {
            for (int what = 0; what <= 2; what++) {
                check.due("row(" + number + ", " + what + ")", log.row(number, what), due[number - 1][what]);
            }
        }
        check.due("row(1, 10)", log.row(1, 10), 10);
        check.due("row(1, 11)", log.row(1, 11), 20);
        check.due("row(2, 10)", log.row(2, 10), 255);
        check.due("row(4, 12)", log.row(4, 12), 3);
        check.due("row(6, 13)", log.row(6, 13), 2);
        check.due("row(6, 17)", log.row(6, 17), 1);
    }

    private static void rowRefuses() {
        StockLog log = sixRows();
        int[][] none = {{0, 0}, {7, 0}, {-1, 0}, {Integer.MIN_VALUE, 1}, {Integer.MAX_VALUE, 2}, {1, 12}, {5, 10},
            {3, 18}, {4, 13}, {1, Integer.MAX_VALUE}, {7, 3}, {0, -1}, {7, 10}};
        for (int[] pair : none) {
            check.refused("row(" + pair[0] + ", " + pair[1] + ")", Check.NO_SUCH_ELEMENT,
                () -> log.row(pair[0], pair[1]));
        }
        for (int what : new int[] {3, 4, 9, -1, -10, Integer.MIN_VALUE}) {
            check.refused("row(1, " + what + ")", Check.ILLEGAL_ARGUMENT, () -> log.row(1, what));
            check.refused("row(6, " + what + ")", Check.ILLEGAL_ARGUMENT, () -> log.row(6, what));
        }
        check.refused("row of a new object", Check.NO_SUCH_ELEMENT, () -> new StockLog(1).row(1, 0));
    }

    private static void findTells() {
        StockLog log = sixRows();
        int[][] due = {{1, 0, 1}, {1, 1, -1}, {2, 0, 2}, {2, 1, 4}, {2, 2, -1}, {3, 0, -1}, {4, 0, 5}, {4, 1, -1},
            {5, 0, 3}, {5, 1, 6}, {5, 2, -1}, {2, Integer.MAX_VALUE, -1}};
        for (int[] one : due) {
            check.due("find(" + one[0] + ", " + one[1] + ")", log.find(one[0], one[1]), one[2]);
        }
    }

    private static void findRefuses() {
        StockLog log = sixRows();
        int[][] pairs = {{0, 0}, {6, 0}, {-1, 0}, {1, -1}, {5, Integer.MIN_VALUE}, {Integer.MIN_VALUE, 0},
            {Integer.MAX_VALUE, 0}, {6, -1}};
        for (int[] pair : pairs) {
            check.refused("find(" + pair[0] + ", " + pair[1] + ")", Check.ILLEGAL_ARGUMENT,
                () -> log.find(pair[0], pair[1]));
        }
    }

    private static void totalTells() {
        StockLog log = sixRows();
        int[][] due = {{1, 1, 6, 30}, {2, 1, 6, 261}, {2, 2, 2, 255}, {2, 3, 6, 6}, {2, 4, 4, 6}, {2, 5, 6, 0},
            {2, 1, 1, 0}, {2, 4, 2, 0}, {3, 1, 6, 0}, {4, 1, 6, 0}, {5, 1, 6, 6}, {5, 3, 3, 2}, {5, 4, 6, 4},
            {2, Integer.MIN_VALUE, Integer.MAX_VALUE, 261}, {2, Integer.MAX_VALUE, Integer.MIN_VALUE, 0},
            {2, -5, 2, 255}, {2, 7, Integer.MAX_VALUE, 0}, {2, Integer.MAX_VALUE, Integer.MAX_VALUE, 0},
            {1, 0, 0, 0}, {2, 3, 4, 6}};
        for (int[] one : due) {
            check.due("total(" + one[0] + ", " + one[1] + ", " + one[2] + ")", log.total(one[0], one[1], one[2]),
                one[3]);
        }
        log.add(100);
        check.due("bytes told are of no row", log.total(2, 1, 9), 261);
    }

    private static void totalRefuses() {
        StockLog log = sixRows();
        for (int kind : new int[] {0, 6, -1, Integer.MIN_VALUE, Integer.MAX_VALUE}) {
            check.refused("total(" + kind + ", 1, 6)", Check.ILLEGAL_ARGUMENT, () -> log.total(kind, 1, 6));
        }
    }

    private static void countTells() {
        StockLog log = sixRows();
        log.add(1);
        log.add(2);
        int[] due = {4, 6, 3, 12 + 9 + 17, 2, 1, 11 + 10 + 17 + 12 + 9 + 17, 2};
        for (int what = 0; what < due.length; what++) {
            check.due("count(" + what + ")", log.count(what), due[what]);
        }
        for (int what : new int[] {-1, 8, 10, Integer.MIN_VALUE, Integer.MAX_VALUE}) {
            check.due("count(" + what + ")", log.count(what), -1);
        }
        log.sync();
        int[] synced = {4, 6, 6, 0, 2, 1, 76, 2};
        for (int what = 0; what < synced.length; what++) {
            check.due("count(" + what + ") behind a sync", log.count(what), synced[what]);
        }
        log.start();
        int[] started = {4, 6, 6, 0, 0, 1, 76, 2};
        for (int what = 0; what < started.length; what++) {
            check.due("count(" + what + ") behind a start", log.count(what), started[what]);
        }
    }

    private static void askingWhenDown() {
        StockLog log = sixRows();
        log.cut(38, 0);
        int[] due = {4, 3, 3, 0, 0, 0, 38, 1};
        for (int what = 0; what < due.length; what++) {
            check.due("count(" + what + ") when down", log.count(what), due[what]);
        }
        check.due("row when down", log.row(2, 10), 255);
        check.refused("row lost", Check.NO_SUCH_ELEMENT, () -> log.row(4, 0));
        check.due("find when down", log.find(5, 0), 3);
        check.due("find lost", log.find(5, 1), -1);
        check.due("total when down", log.total(2, 1, 9), 255);
        check.due("start", log.start(), 6);
        check.due("total behind a start", log.total(2, 1, 9), 261);
    }

    private static void askingChangesNothing() {
        StockLog log = sixRows();
        log.add(9);
        String before = Check.all(log);
        log.find(2, 1);
        log.total(5, 1, 6);
        check.refused("row", Check.NO_SUCH_ELEMENT, () -> log.row(9, 9));
        check.refused("row", Check.ILLEGAL_ARGUMENT, () -> log.row(1, 9));
        check.refused("find", Check.ILLEGAL_ARGUMENT, () -> log.find(1, -1));
        check.same("asking changes nothing", Check.all(log), before);
    }
}
