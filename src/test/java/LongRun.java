/** One object with all the calls that the document allows on it: each is counted and has its answer due. */
final class LongRun {
    private static final int MOST_CALLS = 512;

    private final Check check;
    private final StockLog log;
    private int calls = 0;

    LongRun(Check check, int sectors) {
        this.check = check;
        log = new StockLog(sectors);
    }

    void due(String call, int answer) {
        due(call, Integer.toString(answer));
    }

    void due(String call, String answer) {
        calls++;
        check.same("call " + calls + ", " + call + ",", Calls.answer(log, call), answer);
    }

    void dueTillTheLast(String call, String answer) {
        while (calls < MOST_CALLS) {
            due(call, answer);
        }
    }

    int left() {
        return MOST_CALLS - calls;
    }

    void ends() {
        check.due("calls of the run", calls, MOST_CALLS);
    }
}
