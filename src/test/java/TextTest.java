/** Promises 2 and 3. */
public final class TextTest {
    private static final Checks CHECKS = new Checks();

    public static void main(String[] args) {
        bytesAreSignsLowestFirst();
        onlyTheLowestBytesCount();
        wrongCallsChangeNothing();
        theTextHasALimit();
        wipingLeavesTheRow();
        CHECKS.end();
    }

    private static void bytesAreSignsLowestFirst() {
        LineCodes x = new LineCodes();
        CHECKS.due("write of two", x.write(2, 'a' | 'b' << 8), 2);
        CHECKS.due("write of one more", x.write(1, 'c'), 3);
        x.pack();
        CHECKS.due("the row of abc", Codes.row(x).subList(0, 4), Codes.list(104, 65, 66, 67));
        CHECKS.due("wipe()", x.wipe(), 3);
        CHECKS.due("wipe() again", x.wipe(), 0);
        CHECKS.due("write of eight, the highest a mark", x.write(8, 0x8000000000000000L), 8);
        x.pack();
        CHECKS.due("seven signs 0 and a mark", Codes.row(x).subList(0, 9),
            Codes.list(103, 64, 64, 64, 64, 64, 64, 64, 102));
    }

    private static void onlyTheLowestBytesCount() {
        LineCodes x = new LineCodes();
        CHECKS.due("write with a wrong byte above", x.write(1, 0xFFFFFFFFFFFFFF41L), 1);
        CHECKS.due("write of 128", x.write(1, 128), 2);
        CHECKS.due("write of 127", x.write(1, 127), 3);
        CHECKS.due("write of 0", x.write(1, 0), 4);
        CHECKS.due("wipe()", x.wipe(), 4);
    }

    private static void wrongCallsChangeNothing() {
        LineCodes x = Codes.withText(65);
        for (int n : new int[] {0, -1, 9, Integer.MIN_VALUE, Integer.MAX_VALUE}) {
            CHECKS.dueThrows("write(" + n + ", 65)", IllegalArgumentException.class, () -> x.write(n, 65));
        }
        for (int i = 0; i < 8; i++) {
            for (long wrong : new long[] {129, 200, 255}) {
                int n = i + 1;
                long signs = 0x4141414141414141L & ~(255L << 8 * i) | wrong << 8 * i;
                CHECKS.dueThrows("write of a wrong byte", IllegalArgumentException.class, () -> x.write(n, signs));
                CHECKS.dueThrows("write of it among eight", IllegalArgumentException.class, () -> x.write(8, signs));
            }
        }
        CHECKS.due("signs after wrong calls", x.wipe(), 1);
    }

    private static void theTextHasALimit() {
        LineCodes x = Codes.withText(new int[60]);
        CHECKS.due("write beyond 64", x.write(5, 0), -1);
        CHECKS.dueThrows("a wrong sign beyond 64", IllegalArgumentException.class, () -> x.write(5, 129L << 32));
        CHECKS.due("write up to 64", x.write(4, 0), 64);
        CHECKS.due("write beyond 64", x.write(1, 0), -1);
        CHECKS.dueThrows("a wrong count beyond 64", IllegalArgumentException.class, () -> x.write(9, 0));
        CHECKS.due("wipe()", x.wipe(), 64);
        CHECKS.due("write into the empty text", x.write(8, 0), 8);
    }

    private static void wipingLeavesTheRow() {
        LineCodes x = Codes.withText(65, 66);
        x.pack();
        x.bars(1);
        x.read();
        String before = Codes.seen(x);
        x.wipe();
        x.write(1, 70);
        CHECKS.due("row, strip and what was read after wipe and write", Codes.seen(x), before);
    }
}
