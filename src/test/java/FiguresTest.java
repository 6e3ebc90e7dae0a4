import java.util.Random;

/** Promises 7 and 8. */
public final class FiguresTest {
    private static final Checks CHECKS = new Checks();
    private static final long[] WRONG = {-1, 1000000000000L, Long.MIN_VALUE, Long.MAX_VALUE, 1L << 32 | 1L << 62};

    public static void main(String[] args) {
        checkFigures();
        thirteens();
        wrongCallsChangeNothing();
        theRowAndTheTextStay();
        CHECKS.end();
    }

    private static void checkFigures() {
        LineCodes x = new LineCodes();
        CHECKS.due("checkFigure(0)", x.checkFigure(0), 0);
        CHECKS.due("checkFigure(1)", x.checkFigure(1), 7);
        CHECKS.due("checkFigure(10)", x.checkFigure(10), 9);
        CHECKS.due("checkFigure(100000000000)", x.checkFigure(100000000000L), 9);
        CHECKS.due("checkFigure(20000000000)", x.checkFigure(20000000000L), 4);
        CHECKS.due("checkFigure(400638133393)", x.checkFigure(400638133393L), 1);
        CHECKS.due("checkFigure(999999999999)", x.checkFigure(999999999999L), 4);
        for (long twelve : WRONG) {
            CHECKS.dueThrows("checkFigure(" + twelve + ")", IllegalArgumentException.class, () -> x.checkFigure(twelve));
        }
        CHECKS.due("all after checkFigure", Codes.seen(x), "[] [] [] false");
    }

    private static void thirteens() {
        LineCodes x = new LineCodes();
        Random random = new Random(8);
        for (int first = 0; first <= 9; first++) {
            for (int round = 0; round < 20; round++) {
                dueStrip(x, first * 100000000000L + (random.nextLong() >>> 1) % 100000000000L, 1 + random.nextInt(50));
            }
        }
        dueStrip(x, 0, 1);
        dueStrip(x, 999999999999L, 50);
        CHECKS.due("thirteen(400638133393, 1)", x.thirteen(400638133393L, 1), 59);
        CHECKS.due("its widths", Codes.strip(x), Codes.list(Codes.scaled(
            "111" + "3211" + "1123" + "1114" + "1411" + "3121" + "1222" + "11111"
            + "1411" + "1411" + "1411" + "3112" + "1411" + "2221" + "111", 1)));
    }

    private static void dueStrip(LineCodes x, long twelve, int module) {
        String figures = String.format("%012d", twelve) + x.checkFigure(twelve);
        String turns = Codes.TURNS[figures.charAt(0) - '0'] + "000000";
        CHECKS.due("thirteen(" + twelve + ", " + module + ")", x.thirteen(twelve, module), 59);
        CHECKS.due("its widths", Codes.strip(x), Codes.list(Codes.scaled(Codes.thirteen(figures, turns), module)));
        CHECKS.due("its sum", sum(figures) % 10, 0);
    }

    private static int sum(String figures) {
        int sum = 0;
        for (int i = 1; i <= 13; i++) {
            sum += (figures.charAt(i - 1) - '0') * (i % 2 == 1 ? 1 : 3);
        }
        return sum;
    }

    private static void wrongCallsChangeNothing() {
        LineCodes x = Codes.withStrip(5, 6);
        for (long twelve : WRONG) {
            CHECKS.dueThrows("thirteen(" + twelve + ", 1)", IllegalArgumentException.class, () -> x.thirteen(twelve, 1));
        }
        for (int module : new int[] {0, -1, 51, Integer.MIN_VALUE, Integer.MAX_VALUE}) {
            CHECKS.dueThrows("thirteen(5, " + module + ")", IllegalArgumentException.class, () -> x.thirteen(5, module));
        }
        CHECKS.due("the strip after wrong calls", Codes.strip(x), Codes.list(5, 6));
    }

    private static void theRowAndTheTextStay() {
        LineCodes x = Codes.withText(65, 66);
        x.pack();
        x.bars(1);
        x.read();
        x.thirteen(7, 1);
        CHECKS.due("the row", Codes.row(x), Codes.list(103, 33, 34, 101, 106));
        CHECKS.due("what was read", Codes.told(x), Codes.list(65, 66));
        CHECKS.due("the text", x.wipe(), 2);
    }
}
