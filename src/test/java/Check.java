import java.util.NoSuchElementException;

/** What every test uses: it counts and prints the calls whose answer is not the one that is due. */
final class Check {
    interface Call {
        int answer();
    }

    static final String ILLEGAL_ARGUMENT = IllegalArgumentException.class.getName();
    static final String ILLEGAL_STATE = IllegalStateException.class.getName();
    static final String UNSUPPORTED = UnsupportedOperationException.class.getName();
    static final String NO_SUCH_ELEMENT = NoSuchElementException.class.getName();
    static final String NO_SUCH_INDEX = ArrayIndexOutOfBoundsException.class.getName();

    private int calls = 0;
    private int wrong = 0;

    void due(String call, int got, int want) {
        same(call, Integer.toString(got), Integer.toString(want));
    }

    void refused(String call, String exception, Call made) {
        same(call, outcome(made), exception);
    }

    void same(String call, String got, String want) {
        calls++;
        if (!got.equals(want)) {
            wrong++;
            System.out.println(call + " answered " + got + ", due is " + want);
        }
    }

    /** An answer as text, or the name of the exception thrown, so that both can be compared alike. */
    static String outcome(Call made) {
        try {
            return Integer.toString(made.answer());
        } catch (RuntimeException e) {
            return e.getClass().getName();
        }
    }

    void exit(String test) {
        System.out.println(test + ": " + calls + " answers, " + wrong + " not as due");
        if (wrong != 0 || calls == 0) {
            System.exit(1);
        }
    }

    /** Tells the bytes and ends the row: its number. */
    static int tell(StockLog log, int kind, int... bytes) {
        for (int b : bytes) {
            log.add(b);
        }
        return log.end(kind);
    }

    /** All of an object that can be asked for, so that a refused call can be shown to have changed nothing. */
    static String all(StockLog log) {
        StringBuilder text = new StringBuilder();
        for (int what = 0; what <= 7; what++) {
            text.append(log.count(what)).append(' ');
        }
        text.append("wrong ").append(log.wrong()).append(" rows");
        for (int number = 1; number <= log.count(1); number++) {
            text.append(" [");
            for (int what = 0; what <= 2; what++) {
                text.append(log.row(number, what)).append(' ');
            }
            for (int i = 0; i < log.row(number, 1); i++) {
                text.append(log.row(number, 10 + i)).append(' ');
            }
            text.append(']');
        }
        return text.append(" disk").append(disk(log)).toString();
    }

    static String disk(StockLog log) {
        StringBuilder text = new StringBuilder();
        for (int sector = 0; sector < log.count(0); sector++) {
            for (int i = 0; i < 32; i++) {
                text.append(' ').append(log.byteOf(sector, i));
            }
        }
        return text.toString();
    }

    static int place(StockLog log, int place) {
        return log.byteOf(place / 32, place % 32);
    }

    /** Makes a byte of the disk what it is to be, by a poke if it is another one. */
    static void force(StockLog log, int place, int b) {
        int mask = place(log, place) ^ b;
        if (mask != 0) {
            log.poke(place / 32, place % 32, mask);
        }
    }

    /** Puts a row on the disk as the document words it, with the sum worked out in longs apart from the class. */
    static int forge(StockLog log, int place, int kind, int number, int... bytes) {
        int[] row = new int[9 + bytes.length];
        row[0] = 90;
        row[1] = kind;
        row[2] = number / 256;
        row[3] = number % 256;
        row[4] = bytes.length;
        System.arraycopy(bytes, 0, row, 5, bytes.length);
        long sum = sum(row, 1, 5 + bytes.length);
        for (int i = 0; i < 4; i++) {
            row[5 + bytes.length + i] = (int) (sum >> (24 - 8 * i)) & 255;
        }
        for (int i = 0; i < row.length; i++) {
            force(log, place + i, row[i]);
        }
        return place + row.length;
    }

    static long sum(int[] bytes, int first, int behind) {
        long s = 1;
        for (int i = first; i < behind; i++) {
            s ^= bytes[i];
            s = (s * 128 + s / 33554432) % 4294967296L;
            s = (s * 0x85EBCA77L) & 0xFFFFFFFFL;
        }
        return s;
    }
}
