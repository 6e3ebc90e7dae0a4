import java.util.ArrayList;
import java.util.List;
import java.util.Random;

/** Promises 4 and 5. */
public final class PackTest {
    private static final Checks CHECKS = new Checks();

    public static void main(String[] args) {
        smallTexts();
        tiesGoToTheLeastSymbols();
        everySignAlone();
        theLongestRow();
        theRowStaysUntilPackedAgain();
        rowsAreThoseOfASearch();
        CHECKS.end();
    }

    private static void dueRow(int[] text, int... symbols) {
        LineCodes x = Codes.withText(text);
        List<Integer> want = new ArrayList<>(Codes.list(symbols));
        want.add(Codes.checkOf(symbols));
        want.add(106);
        CHECKS.due("pack() of " + Codes.list(text), x.pack(), want.size());
        CHECKS.due("the row of " + Codes.list(text), Codes.row(x), want);
        CHECKS.due("the symbol behind it", x.symbol(want.size()), -1);
        CHECKS.due("the symbol ahead of it", x.symbol(-1), -1);
        CHECKS.due("the symbol far off", x.symbol(Integer.MAX_VALUE), -1);
        CHECKS.due("signs after pack", x.wipe(), text.length);
    }

    private static void smallTexts() {
        dueRow(Codes.signsOf(""), 103);
        dueRow(Codes.signsOf("A"), 103, 33);
        dueRow(Codes.signsOf("a"), 104, 65);
        dueRow(Codes.signsOf("1"), 103, 17);
        dueRow(Codes.signsOf("12"), 105, 12);
        dueRow(Codes.signsOf("00"), 105, 0);
        dueRow(Codes.signsOf("99"), 105, 99);
        dueRow(Codes.signsOf("123"), 103, 17, 18, 19);
        dueRow(Codes.signsOf("1234"), 105, 12, 34);
        // The signs next to the figures are none.
        dueRow(Codes.signsOf("1:"), 103, 17, 26);
        dueRow(Codes.signsOf(":1"), 103, 26, 17);
        dueRow(Codes.signsOf("1/"), 103, 17, 15);
        dueRow(Codes.signsOf("/1"), 103, 15, 17);
        dueRow(new int[] {Codes.MARK}, 103, 102);
        dueRow(new int[] {0, 31, 32, 95}, 103, 64, 95, 0, 63);
        dueRow(new int[] {32, 95, 96, 127}, 104, 0, 63, 64, 95);
        dueRow(new int[] {'a', 'b', 1, 'c', 'd'}, 104, 65, 66, 98, 65, 67, 68);
        dueRow(new int[] {1, 2, 'a', 3, 4}, 103, 65, 66, 98, 65, 67, 68);
        dueRow(new int[] {'a', 'b', 'c', 1, 2, 3}, 104, 65, 66, 67, 101, 65, 66, 67);
        dueRow(new int[] {1, 2, 3, 'a', 'b', 'c'}, 103, 65, 66, 67, 100, 65, 66, 67);
        dueRow(new int[] {'1', '2', '3', '4', 1, 2}, 105, 12, 34, 101, 65, 66);
    }

    private static void tiesGoToTheLeastSymbols() {
        // B all along, or C first: the first symbol decides.
        dueRow(Codes.signsOf("12a"), 104, 17, 18, 65);
        // A lone odd figure goes where the row's symbols are the least.
        dueRow(Codes.signsOf("a12345"), 104, 65, 17, 99, 23, 45);
        dueRow(Codes.signsOf("12345a"), 105, 12, 34, 100, 21, 65);
        // A change of the set comes ahead of a mark, and behind other signs.
        dueRow(new int[] {'a', Codes.MARK, '1', '2', '3', '4'}, 104, 65, 99, 102, 12, 34);
        dueRow(new int[] {'1', '2', '3', '4', Codes.MARK, 'a'}, 105, 12, 34, 100, 102, 65);
        dueRow(new int[] {Codes.MARK, '1', '2'}, 105, 102, 12);
        // A shift is less than a change of the set.
        dueRow(new int[] {'a', 'b', 1}, 104, 65, 66, 98, 65);
        dueRow(new int[] {1, 2, 'a'}, 103, 65, 66, 98, 65);
        dueRow(new int[] {1, 'a'}, 103, 65, 98, 65);
        dueRow(new int[] {'a', 1}, 103, 98, 65, 65);
    }

    private static void everySignAlone() {
        for (int sign = 0; sign < 128; sign++) {
            boolean inA = sign < 96;
            dueRow(new int[] {sign}, inA ? 103 : 104, sign < 32 ? sign + 64 : sign - 32);
        }
        for (int pair = 0; pair < 100; pair++) {
            dueRow(new int[] {'0' + pair / 10, '0' + pair % 10}, 105, pair);
        }
    }

    private static void theLongestRow() {
        int[] text = new int[64];
        for (int i = 0; i < 64; i++) {
            text[i] = i % 2 == 0 ? 'a' : 1;
        }
        LineCodes x = Codes.withText(text);
        CHECKS.due("pack() of the worst text", x.pack(), 99);
        CHECKS.due("its last symbol", x.symbol(98), 106);
        CHECKS.due("none behind it", x.symbol(99), -1);
        CHECKS.due("its strip", x.bars(50), 595);
        CHECKS.due("read()", x.read(), 64);
        CHECKS.due("what it tells", Codes.told(x), Codes.list(text));
    }

    private static void theRowStaysUntilPackedAgain() {
        LineCodes x = Codes.withText(65, 66, 67);
        x.pack();
        List<Integer> row = Codes.row(x);
        x.wipe();
        x.thirteen(1, 1);
        x.read();
        CHECKS.due("the row after other calls", Codes.row(x), row);
        CHECKS.due("pack() of the empty text", x.pack(), 3);
        CHECKS.due("the row of the empty text", Codes.row(x), Codes.list(103, 0, 106));
    }

    private static void rowsAreThoseOfASearch() {
        int[][] alphabets = {
            {'a', 1, '1', Codes.MARK}, {'1', '2', '3', '1', '2', 'A', 'a', 1}, {'0', '9', Codes.MARK},
            {'1', '2', '3', '4', '5', '6', '7', 'a'}, {'1', '2', '3', '4', '5', 1, 'a', Codes.MARK},
        };
        Random random = new Random(7);
        for (int round = 0; round < 3000; round++) {
            int[] alphabet = alphabets[round % alphabets.length];
            int[] text = random.ints(random.nextInt(round < 2700 ? 14 : 65), 0, alphabet.length)
                .map(i -> alphabet[i]).toArray();
            dueRow(text, new RowSearch(text).leastRow());
        }
    }
}
