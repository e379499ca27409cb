/** Bytes of a disk by their place on it, and rows put there byte by byte as the document words them. */
final class Disk {
    private Disk() {
    }

    static int at(StockLog log, int place) {
        return log.byteOf(place / 32, place % 32);
    }

    static int[] bytes(StockLog log) {
        int[] bytes = new int[32 * log.count(0)];
        for (int i = 0; i < bytes.length; i++) {
            bytes[i] = at(log, i);
        }
        return bytes;
    }

    static String text(StockLog log) {
        StringBuilder text = new StringBuilder();
        for (int b : bytes(log)) {
            text.append(' ').append(b);
        }
        return text.toString();
    }

    /** Makes a byte of the disk what it is to be, by a poke if it is another one. */
    static void force(StockLog log, int place, int b) {
        int mask = at(log, place) ^ b;
        if (mask != 0) {
            log.poke(place / 32, place % 32, mask);
        }
    }

    /** Puts a row on the disk: the place behind it. */
    static int forge(StockLog log, int place, int kind, int number, int... bytes) {
        int[] row = row(kind, number, bytes);
        for (int i = 0; i < row.length; i++) {
            force(log, place + i, row[i]);
        }
        return place + row.length;
    }

    static int[] row(int kind, int number, int... bytes) {
        int[] row = new int[9 + bytes.length];
        row[0] = 90;
        row[1] = kind;
        row[2] = number / 256;
        row[3] = number % 256;
        row[4] = bytes.length;
        System.arraycopy(bytes, 0, row, 5, bytes.length);
        long sum = sum(row, 1, 5 + bytes.length);
        for (int i = 0; i < 4; i++) {
            row[5 + bytes.length + i] = (int) (sum >> (24 - 8 * i)) & 255;
        }
        return row;
    }

    /** In longs and by division, so that it shares nothing with the class. */
    static long sum(int[] bytes, int first, int behind) {
        long s = 1;
        for (int i = first; i < behind; i++) {
            s ^= bytes[i];
            s = (s * 128 + s / 33554432) % 4294967296L;
            s = (s * 0x85EBCA77L) & 0xFFFFFFFFL;
        }
        return s;
    }
}
