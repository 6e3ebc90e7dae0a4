/** The edges that promises 7 and 8 name, a sentence each. */
public final class FigureEdgesTest {
    private static final Checks CHECKS = new Checks();
    private static final long MOST = 999999999999L;

    public static void main(String[] args) {
        twelveFiguresAtMost();
        theCheckFigureComesRoundToZero();
        placesCountFromTheFront();
        zerosInFrontCount();
        numbersOfThirteen();
        modulesOfThirteen();
        bothWrong();
        theStripIsReplaced();
        theFirstFigureTurnsTheOthers();
        CHECKS.end();
    }

    private static void twelveFiguresAtMost() {
        CHECKS.sentence("IllegalArgumentException: it is not 0 .. 999999999999");
        LineCodes x = new LineCodes();
        CHECKS.due("checkFigure(0)", x.checkFigure(0), 0);
        CHECKS.due("checkFigure(the most)", x.checkFigure(MOST), 4);
        CHECKS.due("checkFigure(one less)", x.checkFigure(MOST - 1), 7);
        CHECKS.due("checkFigure(1 << 31)", x.checkFigure(1L << 31), 3);
        CHECKS.due("checkFigure(1 << 32)", x.checkFigure(1L << 32), 2);
        // The lowest 32 bits of some of these are a number that would be taken.
        for (long wrong : new long[] {-1, MOST + 1, -MOST, 1L << 40, 1L << 62, Long.MIN_VALUE, Long.MAX_VALUE}) {
            CHECKS.dueThrows("checkFigure(" + wrong + ")", IllegalArgumentException.class, () -> x.checkFigure(wrong));
        }
    }

    private static void theCheckFigureComesRoundToZero() {
        CHECKS.sentence("to a multiple of 10");
        LineCodes x = new LineCodes();
        // Three times the last figure: 0, 3, 6, 9, 12, ..
        int[] due = {0, 7, 4, 1, 8, 5, 2, 9, 6, 3};
        for (int last = 0; last <= 9; last++) {
            CHECKS.due("checkFigure(" + last + ")", x.checkFigure(last), due[last]);
        }
        // Sums of 9, 10 and 11, and of 20.
        CHECKS.due("checkFigure(3)", x.checkFigure(3), 1);
        CHECKS.due("checkFigure(13)", x.checkFigure(13), 0);
        CHECKS.due("checkFigure(23)", x.checkFigure(23), 9);
        CHECKS.due("checkFigure(26)", x.checkFigure(26), 0);
    }

    private static void placesCountFromTheFront() {
        CHECKS.sentence("the first, the third, .. together with three times the others");
        LineCodes x = new LineCodes();
        long place = 100000000000L;
        for (int i = 1; i <= 12; i++) {
            CHECKS.due("a 1 at place " + i, x.checkFigure(place), i % 2 == 1 ? 9 : 7);
            place /= 10;
        }
    }

    private static void zerosInFrontCount() {
        CHECKS.sentence("zeros in front counted");
        LineCodes x = new LineCodes();
        CHECKS.due("checkFigure(000000000012)", x.checkFigure(12), 3);
        CHECKS.due("checkFigure(012345678901)", x.checkFigure(12345678901L), 2);
        CHECKS.due("thirteen(12, 1)", x.thirteen(12, 1), 59);
        x.read();
        CHECKS.due("what it tells", Codes.told(x), Codes.list(Codes.signsOf("0000000000123")));
    }

    private static void numbersOfThirteen() {
        CHECKS.sentence("IllegalArgumentException: as with checkFigure()");
        for (long right : new long[] {0, 1, MOST - 1, MOST}) {
            CHECKS.due("thirteen(" + right + ", 1)", new LineCodes().thirteen(right, 1), 59);
        }
        for (long wrong : new long[] {-1, MOST + 1, 1L << 40, 1L << 62, Long.MIN_VALUE, Long.MAX_VALUE}) {
            LineCodes x = Codes.withStrip(7, 8);
            CHECKS.dueThrows("thirteen(" + wrong + ", 1)", IllegalArgumentException.class, () -> x.thirteen(wrong, 1));
            CHECKS.due("the strip then", Codes.strip(x), Codes.list(7, 8));
        }
    }

    private static void modulesOfThirteen() {
        CHECKS.sentence("or module is not 1 .. 50");
        for (int module = 1; module <= 50; module++) {
            LineCodes x = new LineCodes();
            CHECKS.due("thirteen(0, " + module + ")", x.thirteen(0, module), 59);
            CHECKS.due("the first width", x.width(0), module);
            CHECKS.due("a width of three modules", x.width(3), 3 * module);
            CHECKS.due("the last width", x.width(58), module);
            CHECKS.due("none behind", x.width(59), -1);
        }
        for (int wrong : new int[] {0, 51, -1, 257, Integer.MIN_VALUE, Integer.MAX_VALUE}) {
            LineCodes x = Codes.withStrip(7, 8);
            CHECKS.dueThrows("thirteen(0, " + wrong + ")", IllegalArgumentException.class, () -> x.thirteen(0, wrong));
            CHECKS.due("the strip then", Codes.strip(x), Codes.list(7, 8));
        }
    }

    private static void bothWrong() {
        CHECKS.sentence("IllegalArgumentException: as with checkFigure(), or module is not 1 .. 50");
        LineCodes x = Codes.withStrip(7, 8);
        for (long twelve : new long[] {-1, MOST + 1}) {
            for (int module : new int[] {0, 51}) {
                CHECKS.dueThrows("thirteen of both wrong", IllegalArgumentException.class,
                    () -> x.thirteen(twelve, module));
            }
        }
        CHECKS.due("the strip then", Codes.strip(x), Codes.list(7, 8));
    }

    private static void theStripIsReplaced() {
        CHECKS.sentence("The strip becomes the widths of thirteen figures");
        for (int had : new int[] {0, 1, 58, 59, 60, 792, 799, 800}) {
            LineCodes x = Codes.withStrip(Codes.ones(had));
            CHECKS.due("thirteen over " + had, x.thirteen(MOST, 50), 59);
            CHECKS.due("read()", x.read(), 13);
            CHECKS.due("clear()", x.clear(), 59);
        }
    }

    private static void theFirstFigureTurnsTheOthers() {
        CHECKS.sentence("is told by the first figure");
        for (int first = 0; first <= 9; first++) {
            LineCodes x = new LineCodes();
            x.thirteen(first * 100000000000L, 1);
            for (int i = 0; i < 12; i++) {
                // A 0 begins with 3 as it is, and with 1 where it is turned; the last one may be another figure.
                boolean turned = i < 6 && Codes.TURNS[first].charAt(i) == '1';
                String figure = i < 11 ? "3211" : Codes.FIGURES[(10 - first) % 10];
                int from = i < 6 ? 3 + 4 * i : 8 + 4 * i;
                CHECKS.due("figure " + (i + 2) + " behind " + first, four(x, from),
                    turned ? new StringBuilder(figure).reverse().toString() : figure);
            }
        }
    }

    private static String four(LineCodes x, int from) {
        return "" + x.width(from) + x.width(from + 1) + x.width(from + 2) + x.width(from + 3);
    }
}
