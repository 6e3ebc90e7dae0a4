import java.util.Arrays;

/** Promises 14 to 16, for rows of symbols. */
public final class ReadRowTest {
    private static final Checks CHECKS = new Checks();
    private static final Reads READS = new Reads(CHECKS);
    private static final int A = 103;
    private static final int B = 104;
    private static final int C = 105;

    public static void main(String[] args) {
        whatSymbolsTell();
        whatCannotStandInARow();
        shifts();
        everyCheckSymbolButOneIsRefused();
        lengths();
        theLongestStrip();
        theLastSeven();
        widthsCountAsTheNearest();
        everyRatioCountsForItself();
        whatWasReadStays();
        CHECKS.end();
    }

    private static void dueRow(int[] symbols, int... signs) {
        READS.dueTold(Codes.scaled(Codes.closed(symbols), 1), signs);
        READS.dueTold(Codes.scaled(Codes.closed(symbols), 7), signs);
        READS.dueTold(Codes.scaled(Codes.closed(symbols), 500), signs);
    }

    private static void dueNoRow(int... symbols) {
        READS.dueRefused(Codes.scaled(Codes.closed(symbols), 3));
    }

    private static int[] symbols(int... symbols) {
        return symbols;
    }

    private static void whatSymbolsTell() {
        dueRow(symbols(A));
        dueRow(symbols(B));
        dueRow(symbols(C));
        for (int symbol = 0; symbol <= 95; symbol++) {
            dueRow(symbols(A, symbol), symbol < 64 ? symbol + 32 : symbol - 64);
            dueRow(symbols(B, symbol), symbol + 32);
        }
        for (int symbol = 0; symbol <= 99; symbol++) {
            dueRow(symbols(C, symbol), '0' + symbol / 10, '0' + symbol % 10);
        }
        for (int first = A; first <= C; first++) {
            dueRow(symbols(first, 102), Codes.MARK);
        }
        dueRow(symbols(A, 99, 12), '1', '2');
        dueRow(symbols(A, 100, 64), 96);
        dueRow(symbols(B, 99, 12), '1', '2');
        dueRow(symbols(B, 101, 64), 0);
        dueRow(symbols(C, 100, 64), 96);
        dueRow(symbols(C, 101, 64), 0);
        // No row of a text, but a row: sets changed for nothing, and at the end.
        dueRow(symbols(A, 99, 101, 100, 101, 65, 100), 1);
        dueRow(symbols(B, 99, 99, 98, 97, 96, 100, 65), '9', '9', '9', '8', '9', '7', '9', '6', 'a');
    }

    private static void whatCannotStandInARow() {
        for (int symbol : new int[] {96, 97, 101, 103, 104, 105}) {
            dueNoRow(A, symbol);
            dueNoRow(A, 1, symbol, 1);
            dueNoRow(C, 101, symbol);
        }
        for (int symbol : new int[] {96, 97, 100, 103, 104, 105}) {
            dueNoRow(B, symbol);
            dueNoRow(B, 1, symbol, 1);
            dueNoRow(C, 100, symbol);
        }
        for (int symbol : new int[] {103, 104, 105}) {
            dueNoRow(C, symbol);
            dueNoRow(A, 99, symbol);
        }
        for (int first = 0; first <= 102; first++) {
            dueNoRow(first);
            dueNoRow(first, 1);
        }
        READS.dueRefused(Codes.scaled(Codes.widthsOf(A, 106, 1) + Codes.closed(A, 1), 1));
    }

    private static void shifts() {
        for (int symbol = 0; symbol <= 95; symbol++) {
            int inA = symbol < 64 ? symbol + 32 : symbol - 64;
            dueRow(symbols(A, 98, symbol, symbol), symbol + 32, inA);
            dueRow(symbols(B, 98, symbol, symbol), inA, symbol + 32);
        }
        for (int symbol = 96; symbol <= 105; symbol++) {
            dueNoRow(A, 98, symbol);
            dueNoRow(B, 98, symbol);
            dueNoRow(A, 98, symbol, 1);
            dueNoRow(B, 98, symbol, 1);
        }
        // What waits for its symbol finds the check symbol only.
        dueNoRow(A, 98);
        dueNoRow(B, 98);
        dueNoRow(A, 65, 98);
        dueRow(symbols(A, 98, 64, 98, 65, 64), 96, 97, 0);
        dueRow(symbols(A, 98, 64, 100, 98, 64, 64), 96, 0, 96);
    }

    private static void everyCheckSymbolButOneIsRefused() {
        for (int check = 0; check <= 105; check++) {
            int[] widths = Codes.scaled(Codes.widthsOf(B, 65, 66, 67, check, 106), 2);
            if (check == Codes.checkOf(B, 65, 66, 67)) {
                READS.dueTold(widths, 'a', 'b', 'c');
            } else {
                READS.dueRefused(widths);
            }
        }
    }

    private static void lengths() {
        READS.dueRefused(new int[0]);
        READS.dueRefused(new int[] {1});
        READS.dueRefused(Codes.scaled(Codes.SYMBOLS[106], 1));
        for (int symbol = 0; symbol <= 105; symbol++) {
            READS.dueRefused(Codes.scaled(Codes.widthsOf(symbol, 106), 1));
        }
        String right = Codes.closed(B, 65, 66);
        for (int cut = 1; cut < right.length(); cut++) {
            READS.dueRefused(Codes.scaled(right.substring(cut), 1));
            READS.dueRefused(Codes.scaled(right.substring(0, cut), 1));
        }
        READS.dueRefused(Codes.scaled(right + "1", 1));
        READS.dueRefused(Codes.scaled("1" + right, 1));
        READS.dueRefused(Codes.scaled(right + right, 1));
        for (int at = 0; at <= right.length(); at++) {
            for (int more = 1; more <= 5; more++) {
                READS.dueRefused(Codes.scaled(right.substring(0, at) + "1".repeat(more) + right.substring(at), 1));
            }
        }
        READS.dueRefused(Codes.scaled(right + "111111", 1));
    }

    private static void theLongestStrip() {
        int[] symbols = new int[131];
        int[] signs = new int[260];
        symbols[0] = C;
        for (int i = 0; i < 130; i++) {
            symbols[i + 1] = i % 100;
            signs[2 * i] = '0' + i % 100 / 10;
            signs[2 * i + 1] = '0' + i % 10;
        }
        int[] widths = Codes.scaled(Codes.closed(symbols), 1);
        CHECKS.due("its widths", widths.length, 799);
        READS.dueTold(widths, signs);
        READS.dueTold(Codes.scaled(Codes.closed(symbols), 500), signs);
    }

    private static void theLastSeven() {
        String before = Codes.widthsOf(B, 65, Codes.checkOf(B, 65));
        READS.dueTold(Codes.scaled(before + "2331112", 1), 'a');
        for (String wrong : "2331121 2113332 2111332 1331112 2321112 2331111 2331122 3331111".split(" ")) {
            READS.dueRefused(Codes.scaled(before + wrong, 1));
        }
    }

    private static void widthsCountAsTheNearest() {
        // The check symbol of A alone is 0, 212222. With a sum of 44 four units are a module.
        int[] first = Codes.scaled(Codes.SYMBOLS[A], 4);
        int[] last = Codes.scaled(Codes.SYMBOLS[106], 4);
        READS.dueTold(joined(first, new int[] {8, 4, 8, 8, 8, 8}, last));
        READS.dueTold(joined(first, new int[] {7, 5, 7, 9, 7, 9}, last));
        // 6 is one module and a half, and counts as 2.
        READS.dueTold(joined(first, new int[] {6, 4, 9, 9, 8, 8}, last));
        READS.dueRefused(joined(first, new int[] {9, 6, 7, 7, 7, 8}, last));
        // 2 is half a module, and counts as 1.
        READS.dueTold(joined(first, new int[] {9, 2, 9, 8, 8, 8}, last));
        READS.dueRefused(joined(first, new int[] {9, 1, 9, 9, 8, 8}, last));
        // 10 is two and a half, and counts as 3.
        READS.dueRefused(joined(first, new int[] {10, 4, 8, 8, 7, 7}, last));
        // With a sum of 88, 11 is less than one and a half of eleven modules; of twelve it would be just that.
        READS.dueTold(joined(first, new int[] {16, 11, 15, 15, 15, 16}, last));
        // One far too wide: what it counts as has two figures, or the others count as 0.
        READS.dueRefused(joined(first, new int[] {2000, 1, 1, 1, 1, 1}, last));
        READS.dueRefused(joined(first, new int[] {2000, 90, 90, 90, 90, 90}, last));
        // The last seven with a sum of 52: the same.
        int[] check = Codes.scaled(Codes.SYMBOLS[0], 4);
        READS.dueTold(joined(first, check, new int[] {6, 12, 12, 5, 5, 4, 8}));
        READS.dueTold(joined(first, check, new int[] {9, 11, 13, 2, 5, 4, 8}));
        READS.dueRefused(joined(first, check, new int[] {8, 12, 11, 6, 4, 4, 7}));
    }

    private static void everyRatioCountsForItself() {
        // The symbols need not be of one size: each six are counted by their own sum.
        int[] first = Codes.scaled(Codes.SYMBOLS[B], 500);
        int[] sign = Codes.scaled(Codes.SYMBOLS[65], 1);
        int[] check = Codes.scaled(Codes.SYMBOLS[Codes.checkOf(B, 65)], 37);
        int[] last = Codes.scaled(Codes.SYMBOLS[106], 200);
        READS.dueTold(joined(first, sign, check, last), 'a');
    }

    private static int[] joined(int[]... parts) {
        return Arrays.stream(parts).flatMapToInt(Arrays::stream).toArray();
    }

    private static void whatWasReadStays() {
        LineCodes x = Codes.withText('a', 'b');
        x.pack();
        x.bars(1);
        x.turn();
        x.read();
        x.clear();
        x.wipe();
        x.pack();
        x.thirteen(0, 1);
        CHECKS.due("told after other calls", Codes.told(x), Codes.list('a', 'b'));
        CHECKS.due("backwards() after other calls", x.backwards(), true);
        x.bars(1);
        CHECKS.due("read() of the empty text", x.read(), 0);
        CHECKS.due("told", Codes.told(x), Codes.list());
        CHECKS.due("backwards()", x.backwards(), false);
        x.turn();
        CHECKS.due("read() of the empty text from the back", x.read(), 0);
        CHECKS.due("backwards() with no sign told", x.backwards(), true);
        x.clear();
        CHECKS.due("read() of nothing", x.read(), -1);
        CHECKS.due("backwards() of nothing", x.backwards(), false);
    }
}
