import java.util.Arrays;
import java.util.List;

/** Promise 6. */
public final class BarsTest {
    private static final Checks CHECKS = new Checks();

    public static void main(String[] args) {
        theStripIsTheRowsWidths();
        everySymbolHasItsWidths();
        wrongCallsChangeNothing();
        theOldStripGoes();
        CHECKS.end();
    }

    private static void dueStrip(LineCodes x, int module) {
        int[] row = Codes.row(x).stream().mapToInt(i -> i).toArray();
        List<Integer> want = Codes.list(Codes.scaled(Codes.widthsOf(row), module));
        CHECKS.due("bars(" + module + ")", x.bars(module), want.size());
        CHECKS.due("the strip of " + Codes.row(x), Codes.strip(x), want);
    }

    private static void theStripIsTheRowsWidths() {
        LineCodes x = new LineCodes();
        x.pack();
        for (int module = 1; module <= 50; module++) {
            dueStrip(x, module);
        }
        x.bars(1);
        CHECKS.due("the strip of the empty text", Codes.strip(x),
            Codes.list(2, 1, 1, 4, 1, 2, 2, 1, 2, 2, 2, 2, 2, 3, 3, 1, 1, 1, 2));
    }

    private static void everySymbolHasItsWidths() {
        boolean[] seen = new boolean[107];
        for (int sign = 0; sign < 128; sign++) {
            seenIn(seen, sign);
        }
        for (int pair = 0; pair < 100; pair++) {
            seenIn(seen, '0' + pair / 10, '0' + pair % 10);
        }
        seenIn(seen, 'a', 'b', 'c', 1, 2, 3, 'a', 'b', 'c', Codes.MARK, '1', '2', '3', '4', 1);
        for (int symbol = 0; symbol <= 106; symbol++) {
            CHECKS.due("symbol " + symbol + " seen", seen[symbol], true);
        }
    }

    private static void seenIn(boolean[] seen, int... text) {
        LineCodes x = Codes.withText(text);
        x.pack();
        dueStrip(x, 1);
        Codes.row(x).forEach(symbol -> seen[symbol] = true);
    }

    private static void wrongCallsChangeNothing() {
        int[] wrong = {0, -1, 51, Integer.MIN_VALUE, Integer.MAX_VALUE};
        LineCodes x = Codes.withStrip(7, 8, 9);
        for (int module : wrong) {
            CHECKS.dueThrows("bars(" + module + "), no row", IllegalArgumentException.class, () -> x.bars(module));
        }
        CHECKS.dueThrows("bars(1) without a row", IllegalStateException.class, () -> x.bars(1));
        x.pack();
        for (int module : wrong) {
            CHECKS.dueThrows("bars(" + module + ")", IllegalArgumentException.class, () -> x.bars(module));
        }
        CHECKS.due("the strip after wrong calls", Codes.strip(x), Codes.list(7, 8, 9));
    }

    private static void theOldStripGoes() {
        int[] full = new int[800];
        Arrays.fill(full, 1);
        LineCodes x = Codes.withStrip(full);
        x.pack();
        dueStrip(x, 3);
        CHECKS.due("clear()", x.clear(), 19);
        dueStrip(x, 4);
    }
}
