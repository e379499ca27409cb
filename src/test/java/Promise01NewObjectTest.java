/** Promise 1: a new object. */
public final class Promise01NewObjectTest {
    public static void main(String[] args) {
        Cases.run(Promise01NewObjectTest.class);
    }

    @Says("So many sectors; up, no rows.")
    static void sectorsFromTheSmallestToTheLargest(Check check) {
        int[][] due = {{1, 1}, {2, 2}, {63, 63}, {64, 64}};
        for (int[] pair : due) {
            check.due("new StockLog(" + pair[0] + ")", new StockLog(pair[0]).count(0), pair[1]);
        }
    }

    @Says("So many sectors; up, no rows.")
    static void sectorsOnEitherSideOfTheRange(Check check) {
        int[][] due = {{0, 1}, {-1, 1}, {Integer.MIN_VALUE, 1}, {65, 64}, {66, 64}, {Integer.MAX_VALUE, 64}};
        for (int[] pair : due) {
            check.due("new StockLog(" + pair[0] + ")", new StockLog(pair[0]).count(0), pair[1]);
        }
    }

    @Says("So many sectors; up, no rows.")
    static void upAtFirst(Check check) {
        for (int sectors : new int[] {0, 1, 64, 65}) {
            check.due("count(5)", new StockLog(sectors).count(5), 1);
            check.due("add", new StockLog(sectors).add(1), 1);
            check.due("sync", new StockLog(sectors).sync(), 0);
        }
    }

    @Says("So many sectors; up, no rows.")
    static void noRowsAtFirst(Check check) {
        check.counts("at first", new StockLog(2), 2, 0, 0, 0, 0, 1, 0, 0);
        check.refused("row(1, 0)", Check.NO_SUCH_ELEMENT, () -> new StockLog(2).row(1, 0));
        for (int kind = 1; kind <= 5; kind++) {
            check.due("find(" + kind + ", 0)", new StockLog(2).find(kind, 0), -1);
            check.due("total(" + kind + ", 1, 9)", new StockLog(2).total(kind, 1, 9), 0);
        }
        check.due("start", new StockLog(2).start(), 0);
    }

    @Says("So many sectors; up, no rows.")
    static void oneObjectKnowsNothingOfAnother(Check check) {
        StockLog one = new StockLog(2);
        StockLog other = new StockLog(2);
        Scenes.tell(one, 1, 1);
        one.sync();
        one.backup();
        one.add(7);
        check.counts("of the other", other, 2, 0, 0, 0, 0, 1, 0, 0);
        check.refused("restore of the other", Check.ILLEGAL_STATE, other::restore);
        other.cut(0, 0);
        check.due("the one is up", one.count(5), 1);
        check.due("the one's byte told", one.end(2), 2);
        check.row(one, 2, 2, 7);
    }
}
