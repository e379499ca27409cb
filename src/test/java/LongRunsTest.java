/** Long runs of calls on one object, each up to its 512th call, with every answer worked out from the document. */
public final class LongRunsTest {
    private static final String USED = "An object is used for at most 512 calls after it has been made";
    private static final String NUMBER = "throws IllegalArgumentException";
    private static final String STATE = "throws IllegalStateException";
    private static final String ROOM = "throws UnsupportedOperationException";
    private static final String INDEX = "throws ArrayIndexOutOfBoundsException";
    private static final String ELEMENT = "throws NoSuchElementException";

    public static void main(String[] args) {
        Cases.run(LongRunsTest.class);
    }

    @Says(USED)
    static void eachCallAsThe512th(Check check) {
        String[][] last = {{"add(255)", "1"}, {"add(256)", NUMBER}, {"end(4)", "1"}, {"end(5)", NUMBER},
            {"whole()", "1"}, {"sync()", "0"}, {"cut(0, 255)", Calls.NOTHING}, {"cut(1, 0)", NUMBER}, {"start()", "0"},
            {"poke(1, 31, 255)", "255"}, {"poke(2, 0, 1)", INDEX}, {"byteOf(1, 31)", "0"}, {"byteOf(0, 32)", INDEX},
            {"row(1, 0)", ELEMENT}, {"find(5, 0)", "-1"}, {"find(6, 0)", NUMBER}, {"wrong()", "0"}, {"backup()", "0"},
            {"restore()", STATE}, {"total(5, 1, 9)", "0"}, {"total(0, 1, 9)", NUMBER}, {"count(5)", "1"},
            {"count(8)", "-1"}};
        for (String[] pair : last) {
            LongRun run = new LongRun(check, 2);
            while (run.left() > 1) {
                run.due("count(0)", 2);
            }
            run.due(pair[0], pair[1]);
            run.ends();
        }
    }

    @Says(USED)
    static void aSyncForEachRow(Check check) {
        LongRun run = new LongRun(check, 64);
        for (int number = 1; number <= 170; number++) {
            run.due("add(" + number + ")", 1);
            run.due("end(" + (1 + number % 4) + ")", number);
            run.due("sync()", 1);
        }
        run.due("row(170, 10)", 170);
        run.due("count(6)", 1700);
        run.ends();
    }

    @Says(USED)
    static void aByteToldTooOftenIsRefusedEachTime(Check check) {
        LongRun run = new LongRun(check, 1);
        for (int n = 1; n <= 20; n++) {
            run.due("add(" + 10 * n + ")", n);
        }
        while (run.left() > 4) {
            run.due("add(1)", ROOM);
        }
        run.due("count(4)", 20);
        run.due("end(1)", 1);
        run.due("row(1, 29)", 200);
        run.due("row(1, 30)", ELEMENT);
        run.ends();
    }

    @Says(USED)
    static void mostRowsThatADiskHoldsAreReadAgainAndAgain(Check check) {
        LongRun run = new LongRun(check, 64);
        for (int number = 1; number <= 227; number++) {
            run.due("end(" + (1 + number % 4) + ")", number);
        }
        run.due("end(1)", ROOM);
        run.due("sync()", 227);
        for (int n = 1; n <= 94; n++) {
            run.due("start()", 227);
            run.due("row(" + n + ", 0)", 1 + n % 4);
            run.due("end(1)", ROOM);
        }
        run.due("count(6)", 2043);
        run.ends();
    }

    @Says(USED)
    static void rowsThatAreLostEachTimeLeaveNothing(Check check) {
        LongRun run = new LongRun(check, 1);
        while (run.left() > 2) {
            run.due("add(7)", 1);
            run.due("end(3)", 1);
            run.due("start()", 0);
        }
        run.due("count(6)", 0);
        run.due("find(3, 0)", -1);
        run.ends();
    }

    @Says(USED)
    static void cutsThatWriteAByteMoreEachTime(Check check) {
        int[] wrong = {0, 2, 3, 3, 5, 5, 5, 5, 5, 5, 5, 0};
        LongRun run = new LongRun(check, 3);
        for (int number = 1; number <= 7; number++) {
            for (int keep = 0; keep <= 11; keep++) {
                run.due("add(21)", 1);
                run.due("add(22)", 2);
                run.due("end(2)", number);
                run.due("cut(" + keep + ", 0)", Calls.NOTHING);
                run.due("start()", keep < 11 ? number - 1 : number);
                run.due("wrong()", wrong[keep]);
            }
        }
        for (int i = 0; i < 7; i++) {
            run.due("find(2, " + i + ")", i + 1);
        }
        run.due("total(2, 1, 7)", 301);
        run.ends();
    }

    @Says(USED)
    static void aByteAlteredAndSetBackEachTime(Check check) {
        LongRun run = new LongRun(check, 1);
        run.due("add(8)", 1);
        run.due("end(2)", 1);
        run.due("sync()", 1);
        for (int n = 0; n < 84; n++) {
            run.due("poke(0, 5, 3)", 11);
            run.due("start()", 0);
            run.due("wrong()", 5);
            run.due("poke(0, 5, 3)", 8);
            run.due("start()", 1);
            run.due("wrong()", 0);
        }
        run.due("row(1, 10)", 8);
        run.due("poke(0, 5, 255)", 247);
        run.due("row(1, 10)", 8);
        run.due("byteOf(0, 5)", 247);
        run.due("count(1)", 1);
        run.ends();
    }

    @Says(USED)
    static void aBackupAndARestoreForEachRow(Check check) {
        LongRun run = new LongRun(check, 64);
        for (int number = 1; number <= 85; number++) {
            run.due("end(1)", number);
            run.due("sync()", 1);
            run.due("backup()", number);
            run.due("end(2)", number + 1);
            run.due("sync()", 1);
            run.due("restore()", number);
        }
        run.due("find(2, 0)", -1);
        run.due("count(6)", 765);
        run.ends();
    }

    @Says(USED)
    static void statesTellTheRowsBeforeThemToTheDisksEnd(Check check) {
        LongRun run = new LongRun(check, 64);
        for (int n = 1; n <= 78; n++) {
            run.due("end(" + (1 + n % 4) + ")", 2 * n - 1);
            run.due("whole()", 2 * n);
        }
        run.due("sync()", 156);
        run.due("start()", 156);
        for (int n = 1; n <= 78; n++) {
            for (int kind = 1; kind <= 4; kind++) {
                int before = (n + (kind == 1 ? 0 : 5 - kind)) / 4;
                run.due("row(" + 2 * n + ", " + (9 + 2 * kind) + ")", before);
            }
        }
        run.due("whole()", 157);
        run.dueTillTheLast("whole()", ROOM);
        run.ends();
    }

    @Says(USED)
    static void refusedCallsChangeNothingHoweverMany(Check check) {
        String[][] refused = {{"add(256)", NUMBER}, {"add(-1)", NUMBER}, {"end(0)", NUMBER}, {"end(5)", NUMBER},
            {"cut(11, 0)", NUMBER}, {"cut(0, 256)", NUMBER}, {"poke(0, 0, 0)", NUMBER}, {"poke(2, 0, 1)", INDEX},
            {"byteOf(0, 32)", INDEX}, {"row(3, 0)", ELEMENT}, {"row(1, 3)", NUMBER}, {"find(0, 0)", NUMBER},
            {"find(1, -1)", NUMBER}, {"total(6, 1, 1)", NUMBER}, {"restore()", STATE}};
        LongRun run = new LongRun(check, 2);
        run.due("add(11)", 1);
        run.due("end(1)", 1);
        run.due("sync()", 1);
        run.due("add(21)", 1);
        run.due("end(2)", 2);
        run.due("add(31)", 1);
        for (int n = 0; n < 32; n++) {
            for (String[] pair : refused) {
                run.due(pair[0], pair[1]);
            }
        }
        int[] counts = {2, 2, 1, 10, 1, 1, 20, 0};
        for (int what = 0; what < counts.length; what++) {
            run.due("count(" + what + ")", counts[what]);
        }
        run.due("row(1, 10)", 11);
        run.due("row(2, 10)", 21);
        run.due("byteOf(0, 5)", 11);
        run.due("byteOf(0, 15)", 0);
        run.due("end(3)", 3);
        run.due("row(3, 10)", 31);
        run.due("sync()", 2);
        run.due("start()", 3);
        run.due("wrong()", 0);
        run.due("count(6)", 30);
        run.dueTillTheLast("restore()", STATE);
        run.ends();
    }

    @Says(USED)
    static void downForLongAndUpByOneStart(Check check) {
        String[][] refused = {{"add(1)", STATE}, {"end(1)", STATE}, {"whole()", STATE}, {"sync()", STATE},
            {"cut(0, 0)", STATE}, {"cut(1, 0)", NUMBER}, {"backup()", STATE}, {"restore()", STATE}};
        LongRun run = new LongRun(check, 1);
        run.due("end(1)", 1);
        run.due("cut(9, 0)", Calls.NOTHING);
        for (int n = 0; n < 62; n++) {
            for (String[] pair : refused) {
                run.due(pair[0], pair[1]);
            }
        }
        run.due("count(5)", 0);
        run.due("count(1)", 0);
        run.due("start()", 1);
        run.due("count(5)", 1);
        run.due("add(1)", 1);
        run.due("end(2)", 2);
        run.due("sync()", 1);
        run.due("backup()", 2);
        run.due("cut(0, 0)", Calls.NOTHING);
        run.due("restore()", 2);
        run.dueTillTheLast("count(5)", "1");
        run.ends();
    }

    @Says(USED)
    static void askingForLongChangesNothing(Check check) {
        String[][] asked = {{"byteOf(0, 5)", "9"}, {"row(1, 10)", "9"}, {"row(2, 2)", "0"}, {"find(5, 0)", "2"},
            {"find(4, 0)", "-1"}, {"wrong()", "0"}, {"total(5, 1, 2)", "1"}, {"total(3, -9, 9)", "9"},
            {"count(3)", "17"}, {"count(4)", "1"}};
        LongRun run = new LongRun(check, 2);
        run.due("add(9)", 1);
        run.due("end(3)", 1);
        run.due("sync()", 1);
        run.due("whole()", 2);
        run.due("add(8)", 1);
        for (int n = 0; n < 50; n++) {
            for (String[] pair : asked) {
                run.due(pair[0], pair[1]);
            }
        }
        run.due("end(4)", 3);
        run.due("sync()", 2);
        run.due("start()", 3);
        run.due("row(3, 10)", 8);
        run.dueTillTheLast("count(6)", "37");
        run.ends();
    }

    @Says(USED)
    static void rowsOfEachKindAreFoundAndSummed(Check check) {
        LongRun run = new LongRun(check, 64);
        for (int number = 1; number <= 160; number++) {
            run.due("add(" + number + ")", 1);
            run.due("end(" + (1 + (number - 1) % 4) + ")", number);
        }
        run.due("sync()", 160);
        for (int kind = 1; kind <= 4; kind++) {
            for (int i = 0; i < 40; i++) {
                run.due("find(" + kind + ", " + i + ")", 4 * i + kind);
            }
            run.due("find(" + kind + ", 40)", -1);
            run.due("total(" + kind + ", 1, 160)", 40 * (78 + kind));
            run.due("total(" + kind + ", 157, 160)", 156 + kind);
        }
        run.dueTillTheLast("start()", "160");
        run.ends();
    }

    @Says(USED)
    static void bytesOfTheDiskAreEachTheirOwn(Check check) {
        LongRun run = new LongRun(check, 64);
        for (int sector = 0; sector < 64; sector++) {
            for (int i = 1; i < 32; i += 10) {
                run.due("poke(" + sector + ", " + i + ", " + (1 + (7 * sector + i) % 255) + ")",
                    1 + (7 * sector + i) % 255);
            }
        }
        for (int sector = 0; sector < 64; sector++) {
            for (int i = 1; i < 32; i += 10) {
                run.due("byteOf(" + sector + ", " + i + ")", 1 + (7 * sector + i) % 255);
            }
        }
        run.ends();
    }
}
