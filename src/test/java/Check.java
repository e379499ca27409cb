import java.util.NoSuchElementException;

/** What every test uses: it counts and prints the calls whose answer is not the one that is due. */
final class Check {
    interface Call {
        int answer();
    }

    interface Made {
        StockLog make();
    }

    interface Asked {
        int of(StockLog log);
    }

    static final String ILLEGAL_ARGUMENT = IllegalArgumentException.class.getName();
    static final String ILLEGAL_STATE = IllegalStateException.class.getName();
    static final String UNSUPPORTED = UnsupportedOperationException.class.getName();
    static final String NO_SUCH_ELEMENT = NoSuchElementException.class.getName();
    static final String NO_SUCH_INDEX = ArrayIndexOutOfBoundsException.class.getName();

    private final String name;
    private int answers = 0;
    private int wrong = 0;

    Check(String name) {
        this.name = name;
    }

    void due(String call, int got, int want) {
        same(call, Integer.toString(got), Integer.toString(want));
    }

    void same(String call, String got, String want) {
        answers++;
        if (!got.equals(want)) {
            wrong++;
            System.out.println(name + ": " + call + " answered " + got + ", due is " + want);
        }
    }

    void counts(String when, StockLog log, int... due) {
        for (int what = 0; what < due.length; what++) {
            due("count(" + what + ") " + when, log.count(what), due[what]);
        }
    }

    void row(StockLog log, int number, int kind, int... bytes) {
        due("kind of row " + number, log.row(number, 0), kind);
        due("length of row " + number, log.row(number, 1), bytes.length);
        for (int i = 0; i < bytes.length; i++) {
            due("byte " + i + " of row " + number, log.row(number, 10 + i), bytes[i]);
        }
    }

    void bytes(StockLog log, int place, int... due) {
        for (int i = 0; i < due.length; i++) {
            due("byte " + (place + i) + " of the disk", Disk.at(log, place + i), due[i]);
        }
    }

    void refused(String call, String exception, Call made) {
        same(call, outcome(made), exception);
    }

    /** Refused by that exception; and then the object can't be told from one on which the call was not made. */
    void refused(String call, String exception, Made made, Asked asked) {
        StockLog first = made.make();
        refused(call, exception, () -> asked.of(first));
        for (Afterwards afterwards : Afterwards.values()) {
            StockLog called = made.make();
            outcome(() -> asked.of(called));
            same(call + ", then " + afterwards, afterwards.seen(called), afterwards.seen(made.make()));
        }
    }

    /** An answer as text, or the name of the exception thrown, so that both can be compared alike. */
    static String outcome(Call made) {
        try {
            return Integer.toString(made.answer());
        } catch (RuntimeException e) {
            return e.getClass().getName();
        }
    }

    boolean hasAsked() {
        return answers != 0;
    }

    boolean isAsDue() {
        return wrong == 0;
    }

    void exit() {
        System.out.println(name + ": " + answers + " answers, " + wrong + " not as due");
        if (wrong != 0 || answers == 0) {
            System.exit(1);
        }
    }
}
