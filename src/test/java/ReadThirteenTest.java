import java.util.Arrays;
import java.util.Random;

/** Promises 14 to 16, for thirteen figures. */
public final class ReadThirteenTest {
    private static final Checks CHECKS = new Checks();
    private static final Reads READS = new Reads(CHECKS);
    private static final String STRAIGHT = "000000";

    public static void main(String[] args) {
        numbersAreReadFromBothEnds();
        everyCheckFigureButOneIsRefused();
        everyTurnsButTenAreRefused();
        theLastSixAreNotTurned();
        sidesAndMiddleCountWithAllWidths();
        figuresCountWithTheirFour();
        unknownFiguresAreRefused();
        otherLengthsAreRefused();
        CHECKS.end();
    }

    private static void dueTold(int[] widths, String figures) {
        READS.dueTold(widths, Codes.signsOf(figures));
    }

    private static void dueRefused(int[] widths) {
        READS.dueRefused(widths);
    }

    private static void numbersAreReadFromBothEnds() {
        LineCodes x = new LineCodes();
        Random random = new Random(9);
        for (int round = 0; round < 200; round++) {
            long twelve = round % 10 * 100000000000L + (random.nextLong() >>> 1) % 100000000000L;
            int module = 1 + random.nextInt(50);
            x.thirteen(twelve, module);
            int[] widths = Codes.strip(x).stream().mapToInt(i -> i).toArray();
            dueTold(widths, String.format("%012d", twelve) + x.checkFigure(twelve));
        }
        dueTold(Codes.scaled(Codes.thirteen("4006381333931", Codes.TURNS[4] + STRAIGHT), 1), "4006381333931");
        dueTold(Codes.scaled(Codes.thirteen("4006381333931", Codes.TURNS[4] + STRAIGHT), 500), "4006381333931");
    }

    private static void everyCheckFigureButOneIsRefused() {
        for (int check = 0; check <= 9; check++) {
            String figures = "400638133393" + check;
            int[] widths = Codes.scaled(Codes.thirteen(figures, Codes.TURNS[4] + STRAIGHT), 2);
            if (check == 1) {
                dueTold(widths, figures);
            } else {
                dueRefused(widths);
            }
        }
    }

    private static void everyTurnsButTenAreRefused() {
        for (int mask = 0; mask < 64; mask++) {
            String turns = String.format("%6s", Integer.toBinaryString(mask)).replace(' ', '0');
            int first = Arrays.asList(Codes.TURNS).indexOf(turns);
            // With another first figure than that of the turns the check figure is wrong.
            for (int tried = 0; tried <= 9; tried++) {
                String figures = withCheck(tried + "12345678901");
                int[] widths = Codes.scaled(Codes.thirteen(figures, turns + STRAIGHT), 1);
                if (tried == first) {
                    dueTold(widths, figures);
                } else {
                    dueRefused(widths);
                }
            }
        }
    }

    private static String withCheck(String twelve) {
        return twelve + new LineCodes().checkFigure(Long.parseLong(twelve));
    }

    private static void theLastSixAreNotTurned() {
        for (int i = 0; i < 6; i++) {
            StringBuilder turns = new StringBuilder(Codes.TURNS[4] + STRAIGHT);
            turns.setCharAt(6 + i, '1');
            dueRefused(Codes.scaled(Codes.thirteen("4006381333931", turns.toString()), 1));
        }
        dueRefused(Codes.scaled(Codes.thirteen("4006381333931", Codes.TURNS[4] + "111111"), 1));
    }

    private static void sidesAndMiddleCountWithAllWidths() {
        // All widths are 190, so a half counts as 1 and one and a half as 2; the second figure, a 0, makes up for it.
        int[] right = Codes.scaled(Codes.thirteen("0000000000000", "000000" + STRAIGHT), 2);
        for (int i : new int[] {0, 1, 2, 27, 28, 29, 30, 31, 56, 57, 58}) {
            dueTold(spoiled(right, i, 1, 3, 6, 4, 2, 3), "0000000000000");
            dueRefused(spoiled(right, i, 3, 3, 6, 4, 2, 1));
            dueTold(spoiled(right, i, 3, 3, 6, 4, 2, 2), "0000000000000");
            dueRefused(spoiled(right, i, 2000, 3, 6, 4, 2, 2));
        }
        // Counted as 0, 11, 1 or 1, 0, 11: not three times 1, though written in a row they would look so.
        int[] ten = Codes.scaled(Codes.thirteen("0000000000000", "000000" + STRAIGHT), 10);
        for (int from : new int[] {0, 56}) {
            dueRefused(spoiled(ten, from, 0, from, 1, 121, 10));
            dueRefused(spoiled(ten, from, 0, from, 10, 1, 121));
        }
        dueRefused(spoiled(ten, 27, 0, 27, 10, 1, 121, 10, 10));
        // Left as they are, but too narrow for a strip whose figures are all drawn far wider.
        int[] wide = Codes.scaled(Codes.thirteen("0000000000000", "000000" + STRAIGHT), 2);
        for (int i = 3; i < 56; i++) {
            if (i < 27 || i > 31) {
                wide[i] *= 3;
            }
        }
        dueRefused(wide);
    }

    /** A copy with width i changed, and those from another place on. */
    private static int[] spoiled(int[] widths, int i, int width, int from, int... others) {
        int[] copy = widths.clone();
        copy[i] = width;
        System.arraycopy(others, 0, copy, from, others.length);
        return copy;
    }

    private static void figuresCountWithTheirFour() {
        int[] right = Codes.scaled(Codes.thirteen("0000000000000", "000000" + STRAIGHT), 4);
        for (int figure = 0; figure < 12; figure++) {
            int from = figure < 6 ? 3 + 4 * figure : 8 + 4 * figure;
            // Two and a half count as 3, and one and a half as 2.
            dueTold(spoiled(right, from, 0, from, 10, 9, 5, 4), "0000000000000");
            dueTold(spoiled(right, from, 0, from, 13, 6, 5, 4), "0000000000000");
            dueRefused(spoiled(right, from, 0, from, 9, 10, 5, 4));
            // Drawn by half as wide again, it counts as before.
            dueTold(spoiled(right, from, 0, from, 18, 12, 6, 6), "0000000000000");
            dueRefused(spoiled(right, from, 0, from, 1, 1, 1, 25));
        }
    }

    private static void unknownFiguresAreRefused() {
        int[] right = Codes.scaled(Codes.thirteen("0000000000000", "000000" + STRAIGHT), 1);
        for (int from : new int[] {3, 23, 32, 52}) {
            dueRefused(spoiled(right, from, 0, from, 2, 1, 1, 3));
            dueRefused(spoiled(right, from, 0, from, 1, 3, 2, 1));
            dueRefused(spoiled(right, from, 0, from, 1, 1, 1, 1));
            dueRefused(spoiled(right, from, 0, from, 2, 3, 1, 1));
        }
    }

    private static void otherLengthsAreRefused() {
        int[] right = Codes.scaled(Codes.thirteen("4006381333931", Codes.TURNS[4] + STRAIGHT), 1);
        dueRefused(Arrays.copyOf(right, 58));
        dueRefused(Arrays.copyOfRange(right, 1, 59));
        int[] longer = Arrays.copyOf(right, 60);
        longer[59] = 1;
        dueRefused(longer);
        dueRefused(Codes.turned(longer));
    }
}
