/** Promise 8: poke. */
public final class Promise08PokeTest {
    public static void main(String[] args) {
        Cases.run(Promise08PokeTest.class);
    }

    @Says("A byte of the disk becomes itself exclusive-or a mask (1 .. 255): what it is.")
    static void everyByteOfADiskIsItsOwn(Check check) {
        StockLog log = new StockLog(3);
        for (int place = 0; place < 96; place++) {
            check.due("poke", log.poke(place / 32, place % 32, 255 - place), 255 - place);
        }
        for (int place = 0; place < 96; place++) {
            check.due("byteOf", log.byteOf(place / 32, place % 32), 255 - place);
        }
    }

    @Says("A byte of the disk becomes itself exclusive-or a mask (1 .. 255): what it is.")
    static void smallestMaskIsTaken(Check check) {
        StockLog log = new StockLog(1);
        check.due("poke", log.poke(0, 7, 1), 1);
        check.due("poke again", log.poke(0, 7, 1), 0);
        check.due("the byte", log.byteOf(0, 7), 0);
    }

    @Says("A byte of the disk becomes itself exclusive-or a mask (1 .. 255): what it is.")
    static void largestMaskIsTaken(Check check) {
        StockLog log = new StockLog(1);
        log.poke(0, 7, 90);
        check.due("poke", log.poke(0, 7, 255), 165);
        check.due("the byte", log.byteOf(0, 7), 165);
        check.due("poke again", log.poke(0, 7, 255), 90);
    }

    @Says("a mask (1 .. 255)")
    static void mask0IsRefused(Check check) {
        check.refused("poke(0, 0, 0)", Check.ILLEGAL_ARGUMENT, Scenes::busy, log -> log.poke(0, 0, 0));
    }

    @Says("a mask (1 .. 255)")
    static void masksOutsideTheRangeAreRefused(Check check) {
        for (int mask : new int[] {-1, 256, 257, Integer.MIN_VALUE, Integer.MAX_VALUE}) {
            check.refused("poke(0, 0, " + mask + ")", Check.ILLEGAL_ARGUMENT, Scenes::busy,
                log -> log.poke(0, 0, mask));
        }
    }

    @Says("ArrayIndexOutOfBoundsException (the machine's own): no such sector, or no such byte of it.")
    static void firstAndLastByteAreTaken(Check check) {
        for (int sectors : new int[] {1, 2, 64}) {
            StockLog log = new StockLog(sectors);
            check.due("first byte", log.poke(0, 0, 3), 3);
            check.due("last byte", log.poke(sectors - 1, 31, 5), 5);
            check.due("first byte is there", log.byteOf(0, 0), 3);
            check.due("last byte is there", log.byteOf(sectors - 1, 31), 5);
        }
    }

    @Says("ArrayIndexOutOfBoundsException (the machine's own): no such sector, or no such byte of it.")
    static void noSuchSectorIsRefused(Check check) {
        for (int sector : new int[] {-1, 3, 64, 134217728, -134217728, Integer.MIN_VALUE, Integer.MAX_VALUE}) {
            for (int i : new int[] {0, 31}) {
                check.refused("poke(" + sector + ", " + i + ", 1)", Check.NO_SUCH_INDEX, Scenes::busy,
                    log -> log.poke(sector, i, 1));
            }
        }
        check.refused("sector 64 of 64", Check.NO_SUCH_INDEX, () -> new StockLog(64).poke(64, 0, 1));
        check.refused("sector 1 of 1", Check.NO_SUCH_INDEX, () -> new StockLog(1).poke(1, 0, 1));
    }

    @Says("ArrayIndexOutOfBoundsException (the machine's own): no such sector, or no such byte of it.")
    static void noSuchByteIsRefused(Check check) {
        for (int i : new int[] {-1, 32, 64, Integer.MIN_VALUE, Integer.MAX_VALUE}) {
            for (int sector = 0; sector < 3; sector++) {
                int one = sector;
                check.refused("poke(" + sector + ", " + i + ", 1)", Check.NO_SUCH_INDEX, Scenes::busy,
                    log -> log.poke(one, i, 1));
            }
        }
    }

    @Says("ArrayIndexOutOfBoundsException (the machine's own): no such sector, or no such byte of it.")
    static void neitherSectorNorByteIsRefused(Check check) {
        int[][] pairs = {{-1, 32}, {-1, 63}, {3, -1}, {3, 32}, {-1, -1}};
        for (int[] pair : pairs) {
            check.refused("poke(" + pair[0] + ", " + pair[1] + ", 1)", Check.NO_SUCH_INDEX, Scenes::busy,
                log -> log.poke(pair[0], pair[1], 1));
        }
    }

    @Says("REFUSALS, the first that holds")
    static void anotherMaskComesBeforeNoSuchByte(Check check) {
        int[][] places = {{3, 0}, {-1, 0}, {0, 32}, {0, -1}};
        for (int[] place : places) {
            for (int mask : new int[] {0, -1, 256}) {
                check.refused("poke(" + place[0] + ", " + place[1] + ", " + mask + ")", Check.ILLEGAL_ARGUMENT,
                    Scenes::busy, log -> log.poke(place[0], place[1], mask));
            }
        }
    }

    @Says("A byte of the disk becomes itself exclusive-or a mask (1 .. 255): what it is.")
    static void diskThatIsDownIsAlteredToo(Check check) {
        StockLog log = Scenes.down();
        check.due("poke", log.poke(0, 0, 90), 0);
        check.due("still down", log.count(5), 0);
        check.due("rows till a start", log.count(1), 2);
        check.due("start", log.start(), 0);
    }

    @Says("A byte of the disk becomes itself exclusive-or a mask (1 .. 255): what it is.")
    static void rowsAndBytesToldStayTillAStart(Check check) {
        StockLog log = Scenes.busy();
        check.due("poke in row 1", log.poke(0, 5, 1), 10);
        check.due("poke under row 3", log.poke(0, 25, 7), 7);
        check.counts("behind it", log, 3, 4, 2, 27, 2, 1, 47, 1);
        check.row(log, 1, 1, 11, 12);
        check.row(log, 3, 2, 21);
        check.due("total of row 1", log.total(1, 1, 1), 23);
        log.sync();
        check.due("row 3 is written over it", log.byteOf(0, 25), 21);
        check.due("row 1 is not", log.byteOf(0, 5), 10);
        check.due("start", log.start(), 0);
    }
}
