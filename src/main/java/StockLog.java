import java.util.NoSuchElementException;

/** Rows of bytes on a disk of sectors that can be cut; ../shared/DOC.md says what each call promises. */
public final class StockLog {
    private static final int SECTOR_BYTES = 32;
    private static final int MOST_SECTORS = 64;
    private static final int MOST_ROW_BYTES = 20;
    private static final int GREATEST_BYTE = 255;
    private static final int STATE_KIND = 5;
    private static final int STATE_BYTES = 8;
    private static final int FIRST_BYTE_ASKED = 10;

    private static final int MARK = 90;
    private static final int KIND_AT = 1;
    private static final int NUMBER_AT = 2;
    private static final int LENGTH_AT = 4;
    private static final int BYTES_AT = 5;
    private static final int NUMBER_BYTES = 2;
    private static final int SUM_BYTES = 4;
    private static final int BARE_ROW_BYTES = BYTES_AT + SUM_BYTES;
    private static final int SUM_FACTOR = 0x85EBCA77;

    private static final int NOTHING_WRONG = 0;
    private static final int NO_MARK = 1;
    private static final int OTHER_KIND = 2;
    private static final int OTHER_NUMBER = 3;
    private static final int TOO_LONG = 4;
    private static final int OTHER_SUM = 5;
    private static final int OTHER_STATE = 6;
    private static final int ROW_IS_WHOLE = -1;

    private final int sectors;
    private final Cells disk;
    private final Cells kept;
    private final Cells told;
    private final Rows rows;
    private int toldCount;
    private int foundBehind;
    private boolean up;
    private boolean hasBackup;

    public StockLog(int sectors) {
        this.sectors = Math.max(1, Math.min(MOST_SECTORS, sectors));
        int size = this.sectors * SECTOR_BYTES;
        disk = new Cells(size);
        kept = new Cells(size);
        told = new Cells(MOST_ROW_BYTES);
        rows = new Rows(size);
        foundBehind = NOTHING_WRONG;
        up = true;
    }

    public int add(int b) throws IllegalArgumentException, IllegalStateException, UnsupportedOperationException {
        if (b < 0 || b > GREATEST_BYTE) {
            throw new IllegalArgumentException("a byte is 0 .. 255");
        }
        refuseWhenDown();
        if (toldCount >= MOST_ROW_BYTES) {
            throw new UnsupportedOperationException("a row has at most twenty bytes");
        }
        told.set(toldCount, b);
        toldCount++;
        return toldCount;
    }

    public int end(int kind) throws IllegalArgumentException, IllegalStateException, UnsupportedOperationException {
        if (kind == STATE_KIND) {
            throw new IllegalArgumentException("a whole state is not told byte by byte");
        }
        refuseOtherKind(kind);
        refuseWhenDown();
        refuseWhenFull(toldCount);
        int number = rows.write(kind, told, toldCount);
        toldCount = 0;
        return number;
    }

    public int whole() throws IllegalStateException, UnsupportedOperationException {
        refuseWhenDown();
        refuseWhenFull(STATE_BYTES);
        return rows.writeState();
    }

    public int sync() throws IllegalStateException {
        refuseWhenDown();
        int before = rows.lastOnDisk;
        disk.copy(rows.image, rows.usedOnDisk, rows.used);
        rows.markAllOnDisk();
        return rows.lastOnDisk - before;
    }

    public void cut(int keep, int mask) throws IllegalArgumentException, IllegalStateException {
        if (keep < 0 || keep > rows.bytesInMemory()) {
            throw new IllegalArgumentException("not so many bytes in memory");
        }
        if (mask < 0 || mask > GREATEST_BYTE) {
            throw new IllegalArgumentException("a cut's mask is 0 .. 255");
        }
        refuseWhenDown();
        int behind = rows.usedOnDisk + keep;
        disk.copy(rows.image, rows.usedOnDisk, behind);
        if (mask != 0 && behind < rows.used) {
            disk.set(behind, rows.image.at(behind) ^ mask);
        }
        rows.dropMemory();
        toldCount = 0;
        up = false;
    }

    public int start() {
        return readDisk();
    }

    public int poke(int sector, int i, int mask) throws IllegalArgumentException, ArrayIndexOutOfBoundsException {
        if (mask < 1 || mask > GREATEST_BYTE) {
            throw new IllegalArgumentException("a poke's mask is 1 .. 255");
        }
        int place = placeOf(sector, i);
        disk.set(place, disk.at(place) ^ mask);
        return disk.at(place);
    }

    public int byteOf(int sector, int i) throws ArrayIndexOutOfBoundsException {
        return disk.at(placeOf(sector, i));
    }

    public int row(int number, int what) throws NoSuchElementException, IllegalArgumentException {
        if (!rows.has(number)) {
            throw new NoSuchElementException("no such row");
        }
        if (what >= FIRST_BYTE_ASKED) {
            return byteOfRow(number, what - FIRST_BYTE_ASKED);
        }
        switch (what) {
            case 0:
                return rows.kindOf(number);
            case 1:
                return rows.lengthOf(number);
            case 2:
                return number <= rows.lastOnDisk ? 1 : 0;
            default:
                throw new IllegalArgumentException("no such thing to ask of a row");
        }
    }

    public int find(int kind, int i) throws IllegalArgumentException {
        refuseOtherKind(kind);
        if (i < 0) {
            throw new IllegalArgumentException("rows of a kind are counted from 0 on");
        }
        return rows.numberOf(kind, i);
    }

    public int wrong() {
        return foundBehind;
    }

    public int backup() throws IllegalStateException {
        refuseWhenDown();
        kept.copy(disk, 0, disk.length());
        hasBackup = true;
        return rows.lastOnDisk;
    }

    public int restore() throws IllegalStateException {
        if (!hasBackup) {
            throw new IllegalStateException("there is no backup");
        }
        disk.copy(kept, 0, kept.length());
        return readDisk();
    }

    public int total(int kind, int from, int to) throws IllegalArgumentException {
        refuseOtherKind(kind);
        int first = Math.max(1, from);
        int last = Math.min(rows.last, to);
        int sum = 0;
        for (int number = first; number <= last; number++) {
            if (rows.kindOf(number) == kind) {
                sum += rows.sumOfBytes(number);
            }
        }
        return sum;
    }

    public int count(int what) {
        switch (what) {
            case 0:
                return sectors;
            case 1:
                return rows.last;
            case 2:
                return rows.lastOnDisk;
            case 3:
                return rows.bytesInMemory();
            case 4:
                return toldCount;
            case 5:
                return up ? 1 : 0;
            case 6:
                return rows.used;
            case 7:
                return rows.ofKind.at(STATE_KIND);
            default:
                return -1;
        }
    }

    private void refuseOtherKind(int kind) {
        if (!isKind(kind)) {
            throw new IllegalArgumentException("no such kind");
        }
    }

    private void refuseWhenDown() {
        if (!up) {
            throw new IllegalStateException("the disk is down");
        }
    }

    private void refuseWhenFull(int length) {
        if (rows.used + BARE_ROW_BYTES + length > disk.length()) {
            throw new UnsupportedOperationException("the disk is full");
        }
    }

    /** Sector and byte are looked at apart, since a wrong pair may still make a place within the disk. */
    private int placeOf(int sector, int i) {
        if (sector < 0 || sector >= sectors || i < 0 || i >= SECTOR_BYTES) {
            throw new ArrayIndexOutOfBoundsException("no such byte of the disk");
        }
        return sector * SECTOR_BYTES + i;
    }

    private int byteOfRow(int number, int i) {
        if (i >= rows.lengthOf(number)) {
            throw new NoSuchElementException("no such byte of the row");
        }
        return rows.byteAt(number, i);
    }

    private int readDisk() {
        toldCount = 0;
        rows.clear();
        foundBehind = rows.read(disk);
        rows.markAllOnDisk();
        up = true;
        return rows.last;
    }

    private static boolean isKind(int kind) {
        return kind >= 1 && kind <= STATE_KIND;
    }

    /** The sum of the row that begins at a place: from its kind on to the last of its bytes. */
    private static int sumOfRow(Cells cells, int start, int length) {
        int sum = 1;
        int sumAt = start + BYTES_AT + length;
        for (int i = start + KIND_AT; i < sumAt; i++) {
            int mixed = sum ^ cells.at(i);
            sum = ((mixed << 7) | (mixed >>> 25)) * SUM_FACTOR;
        }
        return sum;
    }

    /** Numbers by index; each index is tested here, so that no caller can make the machine throw. */
    private static final class Cells {
        private final int[] cells;

        Cells(int length) {
            cells = new int[Math.max(0, length)];
        }

        int length() {
            return cells.length;
        }

        int at(int i) {
            return i >= 0 && i < cells.length ? cells[i] : 0;
        }

        void set(int i, int value) {
            if (i >= 0 && i < cells.length) {
                cells[i] = value;
            }
        }

        void copy(Cells from, int first, int behind) {
            for (int i = first; i < behind; i++) {
                set(i, from.at(i));
            }
        }

        boolean isZeroFrom(int first) {
            for (int i = first; i < cells.length; i++) {
                if (at(i) != 0) {
                    return false;
                }
            }
            return true;
        }

        /** A number in several bytes, the greatest first. */
        int numberAt(int place, int bytes) {
            int number = 0;
            for (int i = 0; i < bytes; i++) {
                number = (number << 8) | at(place + i);
            }
            return number;
        }

        void setNumber(int place, int bytes, int number) {
            for (int i = 0; i < bytes; i++) {
                int shift = 8 * (bytes - 1 - i);
                set(place + i, (number >>> shift) & GREATEST_BYTE);
            }
        }
    }

    /**
     * The rows that there are, on the disk and in memory. They keep an image of their own, for a byte of the disk
     * that is altered does not alter a row before the next start.
     */
    private static final class Rows {
        private final Cells image;
        private final Cells starts;
        private final Cells ofKind;
        private final Cells state;
        private int last;
        private int used;
        private int lastOnDisk;
        private int usedOnDisk;

        Rows(int size) {
            image = new Cells(size);
            starts = new Cells(size / BARE_ROW_BYTES + 1);
            ofKind = new Cells(STATE_KIND + 1);
            state = new Cells(STATE_BYTES);
        }

        boolean has(int number) {
            return number >= 1 && number <= last;
        }

        int kindOf(int number) {
            return image.at(starts.at(number) + KIND_AT);
        }

        int lengthOf(int number) {
            return image.at(starts.at(number) + LENGTH_AT);
        }

        int byteAt(int number, int i) {
            return image.at(starts.at(number) + BYTES_AT + i);
        }

        int sumOfBytes(int number) {
            int length = lengthOf(number);
            int sum = 0;
            for (int i = 0; i < length; i++) {
                sum += byteAt(number, i);
            }
            return sum;
        }

        int numberOf(int kind, int i) {
            int before = 0;
            for (int number = 1; number <= last; number++) {
                if (kindOf(number) == kind) {
                    if (before == i) {
                        return number;
                    }
                    before++;
                }
            }
            return -1;
        }

        int bytesInMemory() {
            return used - usedOnDisk;
        }

        int write(int kind, Cells bytes, int length) {
            image.set(used, MARK);
            image.set(used + KIND_AT, kind);
            image.setNumber(used + NUMBER_AT, NUMBER_BYTES, last + 1);
            image.set(used + LENGTH_AT, length);
            for (int i = 0; i < length; i++) {
                image.set(used + BYTES_AT + i, bytes.at(i));
            }
            image.setNumber(used + BYTES_AT + length, SUM_BYTES, sumOfRow(image, used, length));
            enlistNext();
            return last;
        }

        int writeState() {
            fillState();
            return write(STATE_KIND, state, STATE_BYTES);
        }

        void markAllOnDisk() {
            lastOnDisk = last;
            usedOnDisk = used;
        }

        void dropMemory() {
            for (int number = lastOnDisk + 1; number <= last; number++) {
                int kind = kindOf(number);
                ofKind.set(kind, ofKind.at(kind) - 1);
            }
            last = lastOnDisk;
            used = usedOnDisk;
        }

        void clear() {
            lastOnDisk = 0;
            usedOnDisk = 0;
            dropMemory();
        }

        /** Takes rows from the disk as long as the next one is whole: what is wrong behind them. */
        int read(Cells disk) {
            int judged = judgeNext(disk);
            for (int i = 0; i < disk.length() && judged == ROW_IS_WHOLE; i++) {
                int length = disk.at(used + LENGTH_AT);
                image.copy(disk, used, used + BARE_ROW_BYTES + length);
                enlistNext();
                judged = judgeNext(disk);
            }
            return judged;
        }

        private int judgeNext(Cells disk) {
            if (disk.isZeroFrom(used)) {
                return NOTHING_WRONG;
            }
            if (disk.at(used) != MARK) {
                return NO_MARK;
            }
            if (used + LENGTH_AT >= disk.length()) {
                return TOO_LONG;
            }
            if (!isKind(disk.at(used + KIND_AT))) {
                return OTHER_KIND;
            }
            if (disk.numberAt(used + NUMBER_AT, NUMBER_BYTES) != last + 1) {
                return OTHER_NUMBER;
            }
            int length = disk.at(used + LENGTH_AT);
            if (length > MOST_ROW_BYTES || used + BARE_ROW_BYTES + length > disk.length()) {
                return TOO_LONG;
            }
            if (disk.numberAt(used + BYTES_AT + length, SUM_BYTES) != sumOfRow(disk, used, length)) {
                return OTHER_SUM;
            }
            if (disk.at(used + KIND_AT) == STATE_KIND && !isState(disk, used + BYTES_AT, length)) {
                return OTHER_STATE;
            }
            return ROW_IS_WHOLE;
        }

        private boolean isState(Cells disk, int place, int length) {
            if (length != STATE_BYTES) {
                return false;
            }
            for (int kind = 1; kind < STATE_KIND; kind++) {
                if (disk.numberAt(place + NUMBER_BYTES * (kind - 1), NUMBER_BYTES) != ofKind.at(kind)) {
                    return false;
                }
            }
            return true;
        }

        private void fillState() {
            for (int kind = 1; kind < STATE_KIND; kind++) {
                state.setNumber(NUMBER_BYTES * (kind - 1), NUMBER_BYTES, ofKind.at(kind));
            }
        }

        /** The row whose bytes stand in the image behind all others becomes the last one. */
        private void enlistNext() {
            last++;
            starts.set(last, used);
            int kind = kindOf(last);
            ofKind.set(kind, ofKind.at(kind) + 1);
            used += BARE_ROW_BYTES + lengthOf(last);
        }
    }
}
