import java.util.Arrays;

/** The document's Terms: a case for each sentence's edges. */
public final class TermsTest {
    private static final int[] TWENTY = {1, 2, 3, 4, 5, 6, 7, 8, 9, 10, 11, 12, 13, 14, 15, 16, 17, 18, 19, 20};

    public static void main(String[] args) {
        Cases.run(TermsTest.class);
    }

    // DISK, SECTORS

    @Says("A DISK has so many SECTORS of 32 bytes as told at the beginning (1 .. 64;")
    static void diskOfOneSectorIsTheSmallest(Check check) {
        check.due("sectors", new StockLog(1).count(0), 1);
        check.due("its last byte", new StockLog(1).byteOf(0, 31), 0);
        check.refused("no sector behind it", Check.NO_SUCH_INDEX, () -> new StockLog(1).byteOf(1, 0));
    }

    @Says("A DISK has so many SECTORS of 32 bytes as told at the beginning (1 .. 64;")
    static void diskOf64SectorsIsTheLargest(Check check) {
        check.due("sectors", new StockLog(64).count(0), 64);
        check.due("its last byte", new StockLog(64).byteOf(63, 31), 0);
        check.refused("no sector behind it", Check.NO_SUCH_INDEX, () -> new StockLog(64).byteOf(64, 0));
    }

    @Says("A DISK has so many SECTORS of 32 bytes as told at the beginning (1 .. 64;")
    static void diskOfEachNumberOfSectors(Check check) {
        for (int sectors = 1; sectors <= 64; sectors++) {
            int many = sectors;
            StockLog log = new StockLog(many);
            check.due("sectors", log.count(0), many);
            check.due("the last byte", log.byteOf(many - 1, 31), 0);
            check.refused("no sector behind " + many, Check.NO_SUCH_INDEX, () -> log.byteOf(many, 0));
        }
    }

    @Says("SECTORS of 32 bytes")
    static void sectorEndsBehindItsByte31(Check check) {
        check.due("byte 31", new StockLog(2).byteOf(0, 31), 0);
        check.refused("byte 32", Check.NO_SUCH_INDEX, () -> new StockLog(2).byteOf(0, 32));
    }

    @Says("fewer count as 1")
    static void fewerSectorsCountAsOne(Check check) {
        for (int sectors : new int[] {0, -1, -64, Integer.MIN_VALUE}) {
            StockLog log = new StockLog(sectors);
            check.due("sectors for " + sectors, log.count(0), 1);
            check.due("the last byte for " + sectors, log.byteOf(0, 31), 0);
            check.refused("no other sector for " + sectors, Check.NO_SUCH_INDEX, () -> log.byteOf(1, 0));
            check.due("room for one row of 29 bytes", Scenes.tell(log, 1, TWENTY), 1);
            check.refused("no room for a second row", Check.UNSUPPORTED, () -> log.end(1));
        }
    }

    @Says("more as 64")
    static void moreSectorsCountAs64(Check check) {
        for (int sectors : new int[] {65, 128, Integer.MAX_VALUE}) {
            StockLog log = new StockLog(sectors);
            check.due("sectors for " + sectors, log.count(0), 64);
            check.due("the last byte for " + sectors, log.byteOf(63, 31), 0);
            check.refused("no other sector for " + sectors, Check.NO_SUCH_INDEX, () -> log.byteOf(64, 0));
        }
    }

    @Says("Its bytes are 0 .. 255, 0 at first.")
    static void everyByteOfTheDiskIs0AtFirst(Check check) {
        for (int sectors : new int[] {1, 2, 64}) {
            for (int sector = 0; sector < sectors; sector++) {
                StockLog log = new StockLog(sectors);
                for (int i = 0; i < 32; i++) {
                    check.due("byte " + i + " of sector " + sector, log.byteOf(sector, i), 0);
                }
            }
        }
    }

    @Says("Its bytes are 0 .. 255, 0 at first.")
    static void byteOfTheDiskGoesFrom0To255(Check check) {
        StockLog log = new StockLog(1);
        check.due("the greatest byte", log.poke(0, 0, 255), 255);
        check.due("it is there", log.byteOf(0, 0), 255);
        check.due("the smallest byte", log.poke(0, 0, 255), 0);
        check.due("it is there", log.byteOf(0, 0), 0);
    }

    // ROW, NUMBER, SUM

    @Says("A ROW on the disk has a KIND 1 .. 5")
    static void rowsHaveKinds1To5(Check check) {
        StockLog log = new StockLog(3);
        for (int kind = 1; kind <= 4; kind++) {
            log.end(kind);
        }
        log.whole();
        log.sync();
        for (int kind = 1; kind <= 5; kind++) {
            check.due("kind of row " + kind, log.row(kind, 0), kind);
            check.due("its byte on the disk", Disk.at(log, 9 * kind - 8), kind);
        }
    }

    @Says("the first one on the disk 1")
    static void firstRowHasNumber1(Check check) {
        for (int kind = 1; kind <= 4; kind++) {
            check.due("end(" + kind + ")", new StockLog(1).end(kind), 1);
        }
        check.due("whole()", new StockLog(1).whole(), 1);
    }

    @Says("one more than that of the row before it, whatever the kind")
    static void numberGoesOnWhateverTheKind(Check check) {
        StockLog log = new StockLog(4);
        check.due("end(3)", log.end(3), 1);
        check.due("end(1)", log.end(1), 2);
        check.due("whole()", log.whole(), 3);
        log.sync();
        check.due("end(1) behind a sync", log.end(1), 4);
        check.due("whole() again", log.whole(), 5);
        log.sync();
        log.start();
        check.due("end(4) behind a start", log.end(4), 6);
        log.start();
        check.due("the number of a row that was lost", log.end(2), 6);
    }

    @Says("a NUMBER 1, 2, .. (one more than that of the row before it")
    static void numberComesToItsEndAt227(Check check) {
        StockLog log = new StockLog(64);
        for (int number = 1; number <= 227; number++) {
            check.due("end(3)", log.end(3), number);
        }
        check.refused("no row 228", Check.UNSUPPORTED, () -> log.end(3));
        check.due("sync", log.sync(), 227);
        check.bytes(log, 9 * 226, 90, 3, 0, 227, 0, 169, 231, 199, 125);
        check.bytes(log, 9 * 227, 0, 0, 0, 0, 0);
        check.due("start", log.start(), 227);
        check.due("the last row", log.row(227, 0), 3);
        check.refused("no row 228 behind a start", Check.UNSUPPORTED, () -> log.end(3));
    }

    @Says("0 to 20 BYTES: these are in a row the byte 90, the kind, the number (two bytes, the greater first), how many bytes, the bytes, and four of the SUM (the greatest first)")
    static void rowOfNoBytes(Check check) {
        written(check, 1, new int[0], 90, 1, 0, 1, 0, 83, 50, 188, 182, 0);
    }

    @Says("0 to 20 BYTES: these are in a row the byte 90, the kind, the number (two bytes, the greater first), how many bytes, the bytes, and four of the SUM (the greatest first)")
    static void rowOfThreeBytes(Check check) {
        written(check, 2, new int[] {1, 2, 3}, 90, 2, 0, 1, 3, 1, 2, 3, 138, 209, 225, 60, 0);
    }

    @Says("0 to 20 BYTES: these are in a row the byte 90, the kind, the number (two bytes, the greater first), how many bytes, the bytes, and four of the SUM (the greatest first)")
    static void rowOfTwentyBytes(Check check) {
        written(check, 2, TWENTY, 90, 2, 0, 1, 20, 1, 2, 3, 4, 5, 6, 7, 8, 9, 10, 11, 12, 13, 14, 15, 16, 17, 18,
            19, 20, 151, 41, 164, 219, 0);
    }

    @Says("The SUM is s behind all bytes from the kind on (the sum's own left out)")
    static void sumOfTwentyGreatestBytes(Check check) {
        int[] bytes = new int[20];
        Arrays.fill(bytes, 255);
        written(check, 4, bytes, 90, 4, 0, 1, 20, 255, 255, 255, 255, 255, 255, 255, 255, 255, 255, 255, 255, 255,
            255, 255, 255, 255, 255, 255, 255, 72, 137, 99, 48, 0);
    }

    @Says("s is 1 at first; for each byte b it is s exclusive-or b, turned left by 7 of 32 bits, times 0x85EBCA77 (in 32 bits)")
    static void sumOfASecondRowBeginsAnew(Check check) {
        StockLog log = new StockLog(1);
        Scenes.tell(log, 1);
        Scenes.tell(log, 4, 0, 255, 128);
        log.sync();
        check.bytes(log, 9, 90, 4, 0, 2, 3, 0, 255, 128, 217, 11, 233, 118, 0);
    }

    private static void written(Check check, int kind, int[] bytes, int... due) {
        StockLog log = new StockLog(1);
        Scenes.tell(log, kind, bytes);
        log.sync();
        check.bytes(log, 0, due);
        check.due("a start reads it", log.start(), 1);
        check.row(log, 1, kind, bytes);
    }

    @Says("Rows stand one behind the other from byte 0 on, across sectors.")
    static void rowsStandAcrossSectors(Check check) {
        StockLog log = new StockLog(2);
        Scenes.tell(log, 1, TWENTY);
        Scenes.tell(log, 2, TWENTY);
        log.sync();
        check.bytes(log, 0, Disk.row(1, 1, TWENTY));
        check.bytes(log, 29, Disk.row(2, 2, TWENTY));
        check.bytes(log, 58, 0, 0, 0, 0, 0, 0);
        check.due("a start reads them", log.start(), 2);
        check.row(log, 2, 2, TWENTY);
    }

    @Says("Rows stand one behind the other from byte 0 on, across sectors.")
    static void rowBeginsWithASector(Check check) {
        StockLog log = new StockLog(2);
        Scenes.tell(log, 1, 1, 2, 3, 4, 5, 6, 7, 8, 9, 10, 11, 12, 13, 14);
        Scenes.tell(log, 2);
        Scenes.tell(log, 3);
        log.sync();
        check.bytes(log, 23, Disk.row(2, 2));
        check.bytes(log, 32, Disk.row(3, 3));
        check.due("a start reads them", log.start(), 3);
    }

    // WHOLE STATE

    @Says("A row of kind 5 is a WHOLE STATE: its bytes are how many rows of kinds 1 .. 4 are before it, each kind in two bytes.")
    static void stateOfNoRows(Check check) {
        StockLog log = new StockLog(1);
        log.whole();
        log.sync();
        check.row(log, 1, 5, 0, 0, 0, 0, 0, 0, 0, 0);
        check.bytes(log, 0, 90, 5, 0, 1, 8, 0, 0, 0, 0, 0, 0, 0, 0, 115, 60, 97, 78, 0);
    }

    @Says("its bytes are how many rows of kinds 1 .. 4 are before it, each kind in two bytes")
    static void stateTellsEachKindApart(Check check) {
        StockLog log = new StockLog(5);
        for (int kind = 1; kind <= 4; kind++) {
            for (int n = 0; n < kind; n++) {
                log.end(kind);
            }
        }
        log.whole();
        check.row(log, 11, 5, 0, 1, 0, 2, 0, 3, 0, 4);
    }

    @Says("its bytes are how many rows of kinds 1 .. 4 are before it, each kind in two bytes")
    static void stateTellsTheMostRowsBeforeIt(Check check) {
        StockLog log = new StockLog(64);
        for (int number = 1; number <= 225; number++) {
            log.end(3);
        }
        check.due("whole", log.whole(), 226);
        check.row(log, 226, 5, 0, 0, 0, 0, 0, 225, 0, 0);
        log.sync();
        check.due("a start reads it", log.start(), 226);
    }

    @Says("how many rows of kinds 1 .. 4 are before it")
    static void stateTellsNoStates(Check check) {
        StockLog log = new StockLog(2);
        log.whole();
        log.whole();
        log.end(4);
        log.whole();
        check.row(log, 2, 5, 0, 0, 0, 0, 0, 0, 0, 0);
        check.row(log, 4, 5, 0, 0, 0, 0, 0, 0, 0, 1);
    }

    @Says("how many rows of kinds 1 .. 4 are before it")
    static void stateTellsRowsOnTheDiskAndInMemory(Check check) {
        StockLog log = new StockLog(2);
        log.end(2);
        log.sync();
        log.end(2);
        log.end(1);
        log.whole();
        check.row(log, 4, 5, 0, 1, 0, 2, 0, 0, 0, 0);
    }

    @Says("how many rows of kinds 1 .. 4 are before it")
    static void stateTellsNoRowsThatWereLost(Check check) {
        StockLog log = Scenes.busy();
        log.start();
        log.whole();
        check.row(log, 3, 5, 0, 1, 0, 0, 0, 0, 0, 1);
        StockLog cut = Scenes.down();
        cut.start();
        cut.whole();
        check.row(cut, 3, 5, 0, 1, 0, 0, 0, 0, 0, 1);
    }

    // WRITING, MEMORY, SYNC, CUT

    @Says("WRITING goes to MEMORY")
    static void rowsInMemoryAreNotOnTheDisk(Check check) {
        StockLog log = new StockLog(2);
        Scenes.tell(log, 1, 1, 2);
        log.whole();
        check.same("the disk", Disk.text(log), " 0".repeat(64));
        check.due("row 1 on the disk", log.row(1, 2), 0);
        check.due("row 2 on the disk", log.row(2, 2), 0);
    }

    @Says("all rows since the last SYNC (or start) are written to the disk just at the next sync, in their order")
    static void rowsAreWrittenInTheirOrder(Check check) {
        StockLog log = new StockLog(3);
        Scenes.tell(log, 3, 9);
        Scenes.tell(log, 1, 8);
        check.due("sync", log.sync(), 2);
        Scenes.tell(log, 2, 7);
        check.bytes(log, 20, 0, 0, 0, 0, 0, 0, 0, 0, 0, 0);
        check.due("sync", log.sync(), 1);
        check.bytes(log, 0, Disk.row(3, 1, 9));
        check.bytes(log, 10, Disk.row(1, 2, 8));
        check.bytes(log, 20, Disk.row(2, 3, 7));
    }

    @Says("all rows since the last SYNC (or start)")
    static void rowsBeforeAStartAreNotWritten(Check check) {
        StockLog log = new StockLog(2);
        Scenes.tell(log, 3, 9);
        log.start();
        check.due("sync of none", log.sync(), 0);
        check.same("the disk", Disk.text(log), " 0".repeat(64));
        Scenes.tell(log, 1, 8);
        check.due("sync of the one since the start", log.sync(), 1);
        check.bytes(log, 0, Disk.row(1, 1, 8));
    }

    @Says("A CUT writes some of their bytes alone, from the first one on (those of rows that stand before them are on the disk already)")
    static void cutWritesBehindTheRowsOnTheDisk(Check check) {
        StockLog log = new StockLog(2);
        Scenes.tell(log, 1, 9);
        log.sync();
        log.poke(0, 5, 1);
        Scenes.tell(log, 2, 7);
        log.cut(10, 0);
        check.due("a byte of the row before stays altered", log.byteOf(0, 5), 8);
        check.bytes(log, 10, Disk.row(2, 2, 7));
    }

    @Says("and one more as another one")
    static void cutWritesOneMoreByteAsAnother(Check check) {
        StockLog log = new StockLog(1);
        Scenes.tell(log, 1, 9);
        log.cut(5, 6);
        check.bytes(log, 0, 90, 1, 0, 1, 1, 15, 0, 0, 0, 0, 0);
    }

    @Says("what is in memory is lost; the disk is DOWN then, till a START")
    static void cutLosesMemory(Check check) {
        check.counts("behind a cut", Scenes.down(), 3, 2, 2, 0, 0, 0, 20, 0);
    }

    @Says("the disk is DOWN then, till a START")
    static void downTillAStart(Check check) {
        StockLog log = Scenes.down();
        check.refused("add", Check.ILLEGAL_STATE, () -> log.add(1));
        check.refused("end", Check.ILLEGAL_STATE, () -> log.end(1));
        check.refused("whole", Check.ILLEGAL_STATE, log::whole);
        check.refused("sync", Check.ILLEGAL_STATE, log::sync);
        check.refused("cut", Check.ILLEGAL_STATE, () -> Scenes.cut(log, 0, 0));
        check.refused("backup", Check.ILLEGAL_STATE, log::backup);
        check.due("down", log.count(5), 0);
        log.start();
        check.due("up", log.count(5), 1);
        check.due("add", log.add(1), 1);
        check.due("end", log.end(1), 3);
        check.due("whole", log.whole(), 4);
        check.due("sync", log.sync(), 2);
        check.due("backup", log.backup(), 4);
    }

    // START

    /** One row of kind 1 in the first ten bytes of two sectors, then a forged one: is it read? */
    private static void read(Check check, int rows, int kind, int number, int... bytes) {
        StockLog log = new StockLog(2);
        Disk.forge(log, Disk.forge(log, 0, 1, 1, 42), kind, number, bytes);
        check.due("start before kind " + kind + " number " + number, log.start(), rows);
        check.due("bytes of rows", log.count(6), rows == 1 ? 10 : 19 + bytes.length);
    }

    @Says("A START reads rows from byte 0 on as long as the next one is whole: 90")
    static void startTakesNoRowWithout90(Check check) {
        for (int mask : new int[] {1, 3, 90, 255}) {
            StockLog log = new StockLog(1);
            Disk.forge(log, 0, 1, 1);
            log.poke(0, 0, mask);
            check.due("start", log.start(), 0);
            log.poke(0, 0, mask);
            check.due("start with 90", log.start(), 1);
        }
    }

    @Says("a kind 1 .. 5")
    static void startTakesKinds1To5(Check check) {
        for (int kind = 1; kind <= 4; kind++) {
            read(check, 2, kind, 2, 7);
        }
        read(check, 2, 5, 2, 0, 1, 0, 0, 0, 0, 0, 0);
    }

    @Says("a kind 1 .. 5")
    static void startTakesNoKind0Or6(Check check) {
        read(check, 1, 0, 2, 7);
        read(check, 1, 6, 2, 7);
        read(check, 1, 255, 2, 7);
        read(check, 1, 6, 2, 0, 1, 0, 0, 0, 0, 0, 0);
    }

    @Says("the right number")
    static void startTakesNoOtherNumber(Check check) {
        for (int number : new int[] {0, 1, 3, 256, 258, 512, 65535}) {
            read(check, 1, 1, number, 7);
        }
    }

    @Says("no more than 20 bytes")
    static void startTakes20BytesAndNot21(Check check) {
        read(check, 2, 1, 2);
        read(check, 2, 1, 2, new int[20]);
        read(check, 1, 1, 2, new int[21]);
    }

    @Says("all within the disk")
    static void startTakesARowThatEndsWithTheDisk(Check check) {
        for (int left = 9; left <= 23; left++) {
            StockLog log = Scenes.left(left);
            Disk.forge(log, 32 - left, 3, 2, new int[left - 9]);
            check.due("start of a row in the last " + left + " bytes", log.start(), 2);
            check.due("bytes of rows", log.count(6), 32);
        }
    }

    @Says("all within the disk")
    static void startTakesNoRowThatEndsBehindTheDisk(Check check) {
        for (int left = 3; left <= 23; left++) {
            StockLog log = Scenes.left(left);
            int[] row = Disk.row(3, 2, new int[Math.max(0, left - 8)]);
            for (int i = 0; i < left; i++) {
                Disk.force(log, 32 - left + i, row[i]);
            }
            check.due("start of " + row.length + " bytes in the last " + left, log.start(), 1);
            check.due("bytes of rows", log.count(6), 32 - left);
        }
    }

    @Says("the right sum")
    static void startTakesNoOtherSum(Check check) {
        for (int bit = 0; bit < 32; bit++) {
            StockLog log = new StockLog(1);
            int behind = Disk.forge(log, 0, 1, 1, 42);
            log.poke(0, behind - 1 - bit / 8, 1 << bit % 8);
            check.due("start with another bit " + bit + " of the sum", log.start(), 0);
        }
    }

    @Says("and of kind 5 the right bytes")
    static void startTakesNoStateOfOtherBytes(Check check) {
        read(check, 1, 5, 2, 0, 0, 0, 0, 0, 0, 0, 0);
        read(check, 1, 5, 2, 0, 2, 0, 0, 0, 0, 0, 0);
        read(check, 1, 5, 2, 1, 0, 0, 0, 0, 0, 0, 0);
        read(check, 1, 5, 2);
    }

    @Says("the ROWS are these, what is behind them is left (it may be written over)")
    static void whatIsBehindIsLeft(Check check) {
        StockLog log = new StockLog(3);
        Scenes.tell(log, 1, 1);
        Scenes.tell(log, 2, 2);
        Scenes.tell(log, 3, 3);
        log.sync();
        log.poke(0, 15, 1);
        String disk = Disk.text(log);
        check.due("a start takes no row behind one that is not whole", log.start(), 1);
        check.same("the disk", Disk.text(log), disk);
    }

    @Says("the ROWS are these, what is behind them is left (it may be written over)")
    static void whatIsBehindMayBeWrittenOver(Check check) {
        StockLog log = new StockLog(3);
        Scenes.tell(log, 1, 1);
        Scenes.tell(log, 2, 2);
        Scenes.tell(log, 3, 3);
        log.sync();
        log.poke(0, 15, 1);
        log.start();
        check.due("the next row", Scenes.tell(log, 4, 2), 2);
        log.sync();
        check.bytes(log, 10, Disk.row(4, 2, 2));
        check.due("what stood behind follows it again", log.start(), 3);
        check.row(log, 2, 4, 2);
        check.row(log, 3, 3, 3);
    }

    // FULL

    @Says("The disk is FULL for a row that would not be within it behind all rows (those in memory too).")
    static void notFullForARowThatJustFits(Check check) {
        for (int left = 9; left <= 23; left++) {
            StockLog log = Scenes.left(left);
            check.due("a row for " + left + " bytes", Scenes.tell(log, 4, new int[left - 9]), 2);
            check.due("all taken", log.count(6), 32);
        }
    }

    @Says("The disk is FULL for a row that would not be within it behind all rows (those in memory too).")
    static void fullForARowThatIsAByteTooLong(Check check) {
        for (int left = 9; left <= 23; left++) {
            StockLog log = Scenes.left(left);
            for (int n = 0; n < left - 8; n++) {
                log.add(n);
            }
            check.refused("a row too long for " + left + " bytes", Check.UNSUPPORTED, () -> log.end(4));
        }
    }

    @Says("The disk is FULL for a row that would not be within it behind all rows (those in memory too).")
    static void rowsInMemoryTakeRoomToo(Check check) {
        StockLog log = new StockLog(1);
        log.end(1);
        log.end(1);
        log.end(1);
        check.refused("a fourth row", Check.UNSUPPORTED, () -> log.end(1));
        log.start();
        check.due("room again when they are lost", log.end(1), 1);
    }

    @Says("The disk is FULL for a row that would not be within it behind all rows (those in memory too).")
    static void bytesBehindTheRowsTakeNoRoom(Check check) {
        StockLog log = new StockLog(1);
        for (int i = 0; i < 32; i++) {
            log.poke(0, i, 255);
        }
        check.due("start", log.start(), 0);
        check.due("a row over them", Scenes.tell(log, 1, TWENTY), 1);
    }

    // REFUSALS

    @Says("REFUSALS, the first that holds: NoSuchElementException: a row that there is not; IllegalArgumentException")
    static void noSuchRowComesBeforeAnotherNumber(Check check) {
        check.refused("row(5, 3)", Check.NO_SUCH_ELEMENT, Scenes::busy, log -> log.row(5, 3));
    }

    @Says("IllegalArgumentException: another number outside its range; IllegalStateException: not as it is now")
    static void numberOutsideItsRangeComesBeforeDown(Check check) {
        check.refused("add(256) when down", Check.ILLEGAL_ARGUMENT, Scenes::down, log -> log.add(256));
        check.refused("end(5) when down", Check.ILLEGAL_ARGUMENT, Scenes::down, log -> log.end(5));
        check.refused("cut(1, 0) when down", Check.ILLEGAL_ARGUMENT, Scenes::down, log -> Scenes.cut(log, 1, 0));
        check.refused("cut(0, 256) when down", Check.ILLEGAL_ARGUMENT, Scenes::down, log -> Scenes.cut(log, 0, 256));
    }

    @Says("IllegalStateException: not as it is now; UnsupportedOperationException: no room")
    static void downComesBeforeNoRoom(Check check) {
        check.refused("end(1) when down and full", Check.ILLEGAL_STATE, Scenes::downAndFull, log -> log.end(1));
        check.refused("whole() when down and full", Check.ILLEGAL_STATE, Scenes::downAndFull, StockLog::whole);
    }

    @Says("IllegalArgumentException: another number outside its range; IllegalStateException: not as it is now; UnsupportedOperationException: no room")
    static void numberOutsideItsRangeComesBeforeNoRoom(Check check) {
        check.refused("add(256), twenty told", Check.ILLEGAL_ARGUMENT, Scenes::twentyTold, log -> log.add(256));
        check.refused("end(0) when full", Check.ILLEGAL_ARGUMENT, Scenes::full, log -> log.end(0));
    }

    @Says("IllegalArgumentException: another number outside its range; IllegalStateException: not as it is now; UnsupportedOperationException: no room")
    static void numberOutsideItsRangeComesBeforeDownAndNoRoom(Check check) {
        check.refused("end(5)", Check.ILLEGAL_ARGUMENT, Scenes::downAndFull, log -> log.end(5));
    }
}
