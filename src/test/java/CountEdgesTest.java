import java.util.Arrays;

/**
 * "A width w COUNTS as the whole number that is nearest to w n / S, of two such the greater one": for each width of
 * each symbol, of 106, of the figures, the sides and the middle the least and the greatest one that counts so, and
 * the next ones beyond these.
 */
public final class CountEdgesTest {
    private static final Checks CHECKS = new Checks();
    private static final int WIDEST = 2000;
    /** With the even multiples of n some edges are halves, of which the greater number is the count. */
    private static final int[] TIMES = {1, 2, 3, 4, 6, 10, 37, 100, 250, 400, 499};

    private static int taken = 0;
    private static int refused = 0;

    public static void main(String[] args) {
        CHECKS.sentence("the whole number that is nearest to w n / S, of two such the greater one");
        symbols();
        theLastSeven();
        figures();
        sidesAndMiddle();
        countsOfTwoFigures();
        theWidestOfAll();
        CHECKS.due("many are taken", taken > 10000, true);
        CHECKS.due("many are refused", refused > 10000, true);
        CHECKS.end();
    }

    /** The least width that counts as this number: w n / S is a half less, or more. */
    private static int least(int count, int n, int sum) {
        return ((2 * count - 1) * sum + 2 * n - 1) / (2 * n);
    }

    /** The greatest one: one less than the least that counts as one more. */
    private static int greatest(int count, int n, int sum) {
        return least(count + 1, n, sum) - 1;
    }

    /**
     * Widths with this sum that all count as they should, but for the one at a place, which is given; null when
     * there are none.
     */
    private static int[] widths(String counts, int sum, int place, int given) {
        int n = counts.chars().map(c -> c - '0').sum();
        int[] widths = new int[counts.length()];
        int[] most = new int[counts.length()];
        for (int i = 0; i < widths.length; i++) {
            int count = counts.charAt(i) - '0';
            widths[i] = i == place ? given : Math.max(1, least(count, n, sum));
            most[i] = i == place ? given : Math.min(WIDEST, greatest(count, n, sum));
        }
        int missing = sum - Arrays.stream(widths).sum();
        for (int round = 0; missing > 0 && round < sum * widths.length; round++) {
            int i = round % widths.length;
            int more = Math.min(Math.max(0, most[i] - widths[i]), (missing + widths.length - 1) / widths.length);
            widths[i] += more;
            missing -= more;
        }
        boolean right = missing == 0 && Arrays.stream(widths).allMatch(w -> w >= 1 && w <= WIDEST);
        return right ? widths : null;
    }

    private interface Strip {
        int[] with(int[] part);
    }

    private static void dueAtEdges(String counts, int sum, int signs, Strip strip) {
        int n = counts.chars().map(c -> c - '0').sum();
        for (int i = 0; i < counts.length(); i++) {
            int count = counts.charAt(i) - '0';
            int least = least(count, n, sum);
            int greatest = greatest(count, n, sum);
            due(widths(counts, sum, i, least), strip, signs);
            due(widths(counts, sum, i, greatest), strip, signs);
            due(widths(counts, sum, i, least - 1), strip, -1);
            due(widths(counts, sum, i, greatest + 1), strip, -1);
        }
    }

    private static void due(int[] part, Strip strip, int want) {
        if (part == null) {
            return;
        }
        LineCodes x = Codes.withStrip(strip.with(part));
        CHECKS.due("read() of " + Arrays.toString(strip.with(part)), x.read(), want);
        x.turn();
        CHECKS.due("read() of the same, turned", x.read(), want);
        if (want == -1) {
            refused++;
        } else {
            taken++;
        }
    }

    private static int[] joined(int[]... parts) {
        return Arrays.stream(parts).flatMapToInt(Arrays::stream).toArray();
    }

    private static int[] drawn(int... symbols) {
        return Codes.scaled(Codes.widthsOf(symbols), 3);
    }

    private static void symbols() {
        for (int times : TIMES) {
            for (int more : new int[] {0, 1, 5}) {
                int sum = 11 * times + more;
                for (int symbol = 0; symbol <= 105; symbol++) {
                    dueSymbol(symbol, sum);
                }
            }
        }
    }

    private static void dueSymbol(int symbol, int sum) {
        String counts = Codes.SYMBOLS[symbol];
        if (symbol >= 103) {
            dueAtEdges(counts, sum, 0, part -> joined(part, drawn(Codes.checkOf(symbol), 106)));
            return;
        }
        int first = symbol <= 95 ? 104 : 105;
        int signs = symbol <= 95 || symbol == 102 ? 1 : symbol <= 99 ? 2 : 0;
        int[] behind = drawn(Codes.checkOf(first, symbol), 106);
        dueAtEdges(counts, sum, signs, part -> joined(drawn(first), part, behind));
        // The same symbol as a check symbol: 105 with some symbol of C, or the mark's, behind it makes it.
        int told = (symbol + 103 - 2) % 103;
        int toldSigns = told <= 99 ? 2 : told == 102 ? 1 : 0;
        dueAtEdges(counts, sum, toldSigns, part -> joined(drawn(105, told), part, drawn(106)));
    }

    private static void theLastSeven() {
        int[] ahead = drawn(104, 65, Codes.checkOf(104, 65));
        for (int times : TIMES) {
            for (int more = 0; more < 13; more++) {
                dueAtEdges("2331112", 13 * times + more, 1, part -> joined(ahead, part));
            }
        }
    }

    private static void figures() {
        for (int times : TIMES) {
            for (int more = 0; more < 7; more++) {
                int sum = 7 * times + more;
                for (int figure = 0; figure <= 9; figure++) {
                    dueFigure(figure, sum, times);
                }
            }
        }
    }

    /** In each of the twelve places, with the turns of each first figure in turn. */
    private static void dueFigure(int figure, int sum, int module) {
        for (int place = 1; place <= 12; place++) {
            int first = (figure + place) % 10;
            String turns = Codes.TURNS[first] + "000000";
            StringBuilder counts = new StringBuilder(Codes.FIGURES[figure]);
            if (turns.charAt(place - 1) == '1') {
                counts.reverse();
            }
            int from = place <= 6 ? 4 * place - 1 : 4 * place + 4;
            int[] right = Codes.scaled(Codes.thirteen(withFigure(first, place, figure), turns), module);
            dueAtEdges(counts.toString(), sum, 13, part -> {
                int[] strip = right.clone();
                System.arraycopy(part, 0, strip, from, 4);
                return strip;
            });
        }
    }

    /** Thirteen figures with this one at a place (from 0), those next to it so that the check figure is right. */
    private static String withFigure(int first, int place, int figure) {
        StringBuilder figures = new StringBuilder(first + "000000000000");
        figures.setCharAt(place, (char) ('0' + figure));
        int free = place == 12 ? 10 : 12;
        int sum = 0;
        for (int i = 0; i < 13; i++) {
            sum += (figures.charAt(i) - '0') * (i % 2 == 0 ? 1 : 3);
        }
        figures.setCharAt(free, (char) ('0' + (10 - sum % 10) % 10));
        return figures.toString();
    }

    private static void sidesAndMiddle() {
        for (int times : new int[] {1, 2, 3, 4, 10, 37, 100, 250, 499}) {
            for (int more : new int[] {0, 1, 2, 47, 94}) {
                int sum = 95 * times + more;
                int least = least(1, 95, sum);
                int greatest = greatest(1, 95, sum);
                for (int place : new int[] {0, 1, 2, 27, 28, 29, 30, 31, 56, 57, 58}) {
                    due(zeros(sum, place, least), part -> part, 13);
                    due(zeros(sum, place, greatest), part -> part, 13);
                    due(zeros(sum, place, least - 1), part -> part, -1);
                    due(zeros(sum, place, greatest + 1), part -> part, -1);
                }
            }
        }
    }

    private static void countsOfTwoFigures() {
        CHECKS.sentence("the first three, the last three and the five in the middle all count as 1");
        // 0, 11, 1 and 1, 0, 11 are no three times 1, though they would look so if they were written in a row.
        for (int from : new int[] {0, 29, 56}) {
            for (int[] three : new int[][] {{1, 121, 10}, {10, 1, 121}}) {
                int[] strip = Codes.scaled(Codes.thirteen("0000000000000", "000000000000"), 10);
                System.arraycopy(three, 0, strip, from, 3);
                due(strip, part -> part, -1);
            }
        }
    }

    /** Thirteen 0s with this sum of all widths, and with one width of a side or the middle given; null for none. */
    private static int[] zeros(int sum, int place, int given) {
        int[] strip = new int[59];
        int bar = (sum + 47) / 95;
        for (int i : new int[] {0, 1, 2, 27, 28, 29, 30, 31, 56, 57, 58}) {
            strip[i] = i == place ? given : bar;
        }
        int rest = sum - Arrays.stream(strip).sum();
        for (int figure = 0; figure < 12; figure++) {
            int four = (rest + figure) / 12;
            int[] widths = four < 4 ? null : widths("3211", four, -1, 0);
            if (given < 1 || widths == null) {
                return null;
            }
            System.arraycopy(widths, 0, strip, figure < 6 ? 3 + 4 * figure : 8 + 4 * figure, 4);
        }
        return strip;
    }

    private static void theWidestOfAll() {
        // 4 modules begin at 7 / 22 of the sum: 2000 is more than that of 6285, and less than that of 6286.
        int[] wide = widths("314111", 6285, 2, WIDEST);
        int[] narrow = widths("314111", 6286, 2, WIDEST);
        CHECKS.due("both are there", wide != null && narrow != null, true);
        int[] behind = drawn(Codes.checkOf(104, 60), 106);
        due(wide, part -> joined(drawn(104), part, behind), 1);
        due(narrow, part -> joined(drawn(104), part, behind), -1);
        // All that the strip can hold, all of the widest: their counts are all alike, and no symbol's.
        int[] all = Codes.ones(799);
        Arrays.fill(all, WIDEST);
        due(all, part -> part, -1);
        int[] fiftyNine = Arrays.copyOf(all, 59);
        due(fiftyNine, part -> part, -1);
    }
}
