import java.util.Arrays;
import java.util.stream.IntStream;

/** Promises 9 to 13. */
public final class StripTest {
    private static final Checks CHECKS = new Checks();

    public static void main(String[] args) {
        bytesAreWidthsLowestFirst();
        wrongPutsChangeNothing();
        theStripHasALimit();
        clearing();
        spoiling();
        wrongSpoilsChangeNothing();
        turning();
        othersStay();
        CHECKS.end();
    }

    private static void bytesAreWidthsLowestFirst() {
        LineCodes x = new LineCodes();
        CHECKS.due("put of two", x.put(2, 0x0201), 2);
        CHECKS.due("put of one, a 0 above it", x.put(1, 255), 3);
        CHECKS.due("put of eight", x.put(8, 0xFF80070605040301L), 11);
        CHECKS.due("the strip", Codes.strip(x), Codes.list(1, 2, 255, 1, 3, 4, 5, 6, 7, 128, 255));
        for (int i : new int[] {-1, 11, 800, Integer.MIN_VALUE, Integer.MAX_VALUE}) {
            CHECKS.due("width(" + i + ")", x.width(i), -1);
        }
    }

    private static void wrongPutsChangeNothing() {
        LineCodes x = Codes.withStrip(9);
        for (int n : new int[] {0, -1, 9, Integer.MIN_VALUE, Integer.MAX_VALUE}) {
            CHECKS.dueThrows("put(" + n + ", ..)", IllegalArgumentException.class, () -> x.put(n, 0x0101010101010101L));
        }
        for (int i = 0; i < 8; i++) {
            int n = i + 1;
            long widths = 0x0101010101010101L & ~(255L << 8 * i);
            CHECKS.dueThrows("put of a 0", IllegalArgumentException.class, () -> x.put(n, widths));
            CHECKS.dueThrows("put of a 0 among eight", IllegalArgumentException.class, () -> x.put(8, widths));
        }
        CHECKS.due("the strip after wrong calls", Codes.strip(x), Codes.list(9));
    }

    private static void theStripHasALimit() {
        int[] widths = new int[796];
        Arrays.fill(widths, 3);
        LineCodes x = Codes.withStrip(widths);
        CHECKS.due("put beyond 800", x.put(5, 0x0101010101L), -1);
        CHECKS.dueThrows("a 0 beyond 800", IllegalArgumentException.class, () -> x.put(5, 0x0001010101L));
        CHECKS.due("put up to 800", x.put(4, 0x04030201), 800);
        CHECKS.due("put beyond 800", x.put(1, 1), -1);
        CHECKS.dueThrows("a wrong count beyond 800", IllegalArgumentException.class, () -> x.put(9, 1));
        CHECKS.due("the last width", x.width(799), 4);
        CHECKS.due("none behind it", x.width(800), -1);
        CHECKS.due("turn()", x.turn(), 800);
        CHECKS.due("the first width", x.width(0), 4);
        CHECKS.due("read() of a full strip", x.read(), -1);
        CHECKS.due("clear()", x.clear(), 800);
    }

    private static void clearing() {
        LineCodes x = Codes.withStrip(1, 2, 3);
        CHECKS.due("clear()", x.clear(), 3);
        CHECKS.due("width(0)", x.width(0), -1);
        CHECKS.due("clear() again", x.clear(), 0);
        CHECKS.due("put after clear", x.put(1, 7), 1);
        CHECKS.due("width(0)", x.width(0), 7);
    }

    private static void spoiling() {
        LineCodes x = Codes.withStrip(1, 2, 3);
        CHECKS.due("spoil(0, 2000)", x.spoil(0, 2000), 1);
        CHECKS.due("spoil(2, 1)", x.spoil(2, 1), 3);
        CHECKS.due("spoil(0, 5)", x.spoil(0, 5), 2000);
        CHECKS.due("spoil(1, 2)", x.spoil(1, 2), 2);
        CHECKS.due("the strip", Codes.strip(x), Codes.list(5, 2, 1));
    }

    private static void wrongSpoilsChangeNothing() {
        LineCodes x = Codes.withStrip(1, 2, 3);
        int[] wrongWidths = {0, -1, 2001, Integer.MIN_VALUE, Integer.MAX_VALUE};
        for (int i : new int[] {-1, 3, 799, Integer.MIN_VALUE, Integer.MAX_VALUE}) {
            CHECKS.dueThrows("spoil(" + i + ", 1)", IndexOutOfBoundsException.class, () -> x.spoil(i, 1));
            for (int width : wrongWidths) {
                CHECKS.dueThrows("both wrong", IndexOutOfBoundsException.class, () -> x.spoil(i, width));
            }
        }
        for (int width : wrongWidths) {
            CHECKS.dueThrows("spoil(0, " + width + ")", IllegalArgumentException.class, () -> x.spoil(0, width));
        }
        CHECKS.due("the strip after wrong calls", Codes.strip(x), Codes.list(1, 2, 3));
    }

    private static void turning() {
        for (int n = 0; n < 12; n++) {
            int[] widths = IntStream.rangeClosed(1, n).map(i -> 100 * i).toArray();
            LineCodes x = Codes.withStrip(widths);
            CHECKS.due("turn() of " + n, x.turn(), n);
            CHECKS.due("turned", Codes.strip(x), Codes.list(Codes.turned(widths)));
            x.turn();
            CHECKS.due("turned twice", Codes.strip(x), Codes.list(widths));
        }
    }

    private static void othersStay() {
        LineCodes x = Codes.withText('a', 'b');
        x.pack();
        x.bars(1);
        x.turn();
        x.read();
        x.put(1, 1);
        x.spoil(0, 2000);
        x.turn();
        x.clear();
        CHECKS.due("row and what was read", Codes.seen(x), "[104, 65, 66, 95, 106] [] [97, 98] true");
        CHECKS.due("the text", x.wipe(), 2);
    }
}
