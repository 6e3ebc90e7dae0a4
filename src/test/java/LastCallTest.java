/** "An object is used for at most 512 calls after it has been made": up to the 512th all answers are as due. */
public final class LastCallTest {
    private static final Checks CHECKS = new Checks();
    private static final int CALLS = 512;

    public static void main(String[] args) {
        CHECKS.sentence("at most 512 calls");
        refusedToTheEnd();
        writtenToTheEnd();
        putToTheEnd();
        readToTheEnd();
        CHECKS.end();
    }

    private static void refusedToTheEnd() {
        LineCodes x = new LineCodes();
        for (int call = 1; call < CALLS; call++) {
            CHECKS.dueThrows("bars(1) as call " + call, IllegalStateException.class, () -> x.bars(1));
        }
        CHECKS.due("pack() as the last call", x.pack(), 3);
    }

    private static void writtenToTheEnd() {
        LineCodes x = new LineCodes();
        for (int call = 1; call <= CALLS; call++) {
            CHECKS.due("write as call " + call, x.write(1, 65), call <= 64 ? call : -1);
        }
        LineCodes packed = Codes.withText(1, 'a', 2, 'b', 3, 'c', 4, 'd');
        for (int call = 3; call < CALLS; call++) {
            CHECKS.due("pack() as call " + call, packed.pack(), 15);
        }
        CHECKS.due("symbol(14) as the last call", packed.symbol(14), 106);
    }

    private static void putToTheEnd() {
        LineCodes x = new LineCodes();
        for (int call = 1; call <= CALLS; call++) {
            CHECKS.due("put as call " + call, x.put(8, 0x0101010101010101L), call <= 100 ? 8 * call : -1);
        }
        LineCodes singly = new LineCodes();
        for (int call = 1; call < CALLS; call++) {
            CHECKS.due("put of one as call " + call, singly.put(1, 1), call);
        }
        CHECKS.due("turn() as the last call", singly.turn(), CALLS - 1);
    }

    private static void readToTheEnd() {
        LineCodes x = new LineCodes();
        x.thirteen(400638133393L, 50);
        for (int call = 2; call < CALLS; call += 2) {
            CHECKS.due("read() as call " + call, x.read(), 13);
            CHECKS.due("turn() as call " + (call + 1), x.turn(), 59);
        }
        CHECKS.due("backwards() as the last call", x.backwards(), false);
    }
}
