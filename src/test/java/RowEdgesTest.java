import java.util.ArrayList;
import java.util.List;

/** The edges that promises 4 to 6 name, and the terms of the row of a text, a sentence each. */
public final class RowEdgesTest {
    private static final Checks CHECKS = new Checks();
    private static final int M = Codes.MARK;

    public static void main(String[] args) {
        theEmptyText();
        fullTexts();
        signsAtTheEdgesOfTheSets();
        figuresAtTheEdgesOfC();
        marksInAllSets();
        shiftOrChange();
        runsOfFigures();
        equalLengths();
        checkSymbolsComeRoundToZero();
        packingAgain();
        symbolsOfTheRow();
        modules();
        noRow();
        theStripIsReplaced();
        eachTimesModule();
        CHECKS.end();
    }

    private static void dueRow(int[] text, int... symbols) {
        LineCodes x = Codes.withText(text);
        List<Integer> want = new ArrayList<>(Codes.list(symbols));
        want.add(Codes.checkOf(symbols));
        want.add(106);
        CHECKS.due("pack() of " + Codes.list(text), x.pack(), want.size());
        CHECKS.due("the row of " + Codes.list(text), Codes.row(x), want);
    }

    private static void dueRow(String text, int... symbols) {
        dueRow(Codes.signsOf(text), symbols);
    }

    private static int[] text(int... signs) {
        return signs;
    }

    private static int[] filled(int count, int... signs) {
        int[] text = new int[count];
        for (int i = 0; i < count; i++) {
            text[i] = signs[i % signs.length];
        }
        return text;
    }

    private static void theEmptyText() {
        CHECKS.sentence("The row of the text becomes the row: how many symbols it has, all counted.");
        LineCodes x = new LineCodes();
        CHECKS.due("pack() of the empty text", x.pack(), 3);
        CHECKS.due("its row", Codes.row(x), Codes.list(103, 0, 106));
    }

    private static void fullTexts() {
        CHECKS.sentence("A TEXT is a row of up to 64 SIGNS");
        CHECKS.due("64 signs of A", Codes.withText(filled(64, 'A', 1)).pack(), 67);
        CHECKS.due("64 signs of B", Codes.withText(filled(64, 'A', 'a')).pack(), 67);
        CHECKS.due("64 figures", Codes.withText(filled(64, '4', '2')).pack(), 35);
        CHECKS.due("63 figures", Codes.withText(filled(63, '4', '2')).pack(), 36);
        CHECKS.due("64 marks", Codes.withText(filled(64, M)).pack(), 67);
        CHECKS.due("64 signs of A and B in turn", Codes.withText(filled(64, 'a', 1)).pack(), 99);
        CHECKS.due("63 signs of A and B in turn", Codes.withText(filled(63, 'a', 1)).pack(), 97);
        int[] last = filled(64, 'A');
        last[63] = M;
        LineCodes x = Codes.withText(last);
        x.pack();
        CHECKS.due("the symbol of the 63rd sign", x.symbol(63), 33);
        CHECKS.due("the symbol of the 64th sign", x.symbol(64), 102);
    }

    private static void signsAtTheEdgesOfTheSets() {
        CHECKS.sentence("A: 0 .. 63 tell the sign that is 32 more, 64 .. 95 the one that is 64 less.");
        dueRow(text(0, 0), 103, 64, 64);
        dueRow(text(0, 31), 103, 64, 95);
        dueRow(text(0, 32), 103, 64, 0);
        dueRow(text(0, 95), 103, 64, 63);
        dueRow(text(0, 96), 103, 64, 98, 64);
        dueRow(text(0, 127), 103, 64, 98, 95);
        CHECKS.sentence("B: 0 .. 95 tell the sign that is 32 more.");
        dueRow(text(127, 127), 104, 95, 95);
        dueRow(text(127, 127, 96), 104, 95, 95, 64);
        dueRow(text(127, 127, 95), 104, 95, 95, 63);
        dueRow(text(127, 127, 32), 104, 95, 95, 0);
        dueRow(text(127, 127, 31), 104, 95, 95, 98, 95);
        dueRow(text(127, 127, 0), 104, 95, 95, 98, 64);
    }

    private static void figuresAtTheEdgesOfC() {
        CHECKS.sentence("C: 0 .. 99 tell the signs of two figures");
        dueRow("00", 105, 0);
        dueRow("09", 105, 9);
        dueRow("90", 105, 90);
        dueRow("99", 105, 99);
        dueRow("0", 103, 16);
        dueRow("000", 103, 16, 16, 16);
        // 47 and 58 are no figures.
        dueRow("0/", 103, 16, 15);
        dueRow("/0", 103, 15, 16);
        dueRow("9:", 103, 25, 26);
        dueRow(":9", 103, 26, 25);
        // In C 96 to 99 tell figures as well, which they do in no other set.
        dueRow("96979899", 105, 96, 97, 98, 99);
    }

    private static void marksInAllSets() {
        CHECKS.sentence("102 tells the mark, in all sets.");
        dueRow(text(M), 103, 102);
        dueRow(text(1, M, 1), 103, 65, 102, 65);
        dueRow(text('a', M, 'a'), 104, 65, 102, 65);
        dueRow(text('1', '2', M, '3', '4'), 105, 12, 102, 34);
        // A mark parts two figures.
        dueRow(text('1', M, '2'), 103, 17, 102, 18);
        dueRow(text(M, '1'), 103, 102, 17);
        dueRow(text(M, 'a'), 104, 102, 65);
        // No other symbol tells 128, and 98 goes with 0 .. 95 alone.
        dueRow(text('a', 'b', M, 1, M, 'c'), 104, 65, 66, 102, 98, 65, 102, 67);
    }

    private static void shiftOrChange() {
        CHECKS.sentence("98, in A and B alone");
        dueRow(text(1, 2, 'a', 3, 4), 103, 65, 66, 98, 65, 67, 68);
        dueRow(text('a', 'b', 1, 'c', 'd'), 104, 65, 66, 98, 65, 67, 68);
        // Two shifts cost as much as two changes, and 98 is less than 100 and 101.
        dueRow(text(1, 2, 'a', 'b', 3, 4), 103, 65, 66, 98, 65, 98, 66, 67, 68);
        dueRow(text('a', 'b', 1, 2, 'c', 'd'), 104, 65, 66, 98, 65, 98, 66, 67, 68);
        // Three cost more.
        dueRow(text(1, 2, 'a', 'b', 'c', 3, 4, 5), 103, 65, 66, 100, 65, 66, 67, 101, 67, 68, 69);
        dueRow(text('a', 'b', 1, 2, 3, 'c', 'd', 'e'), 104, 65, 66, 101, 65, 66, 67, 100, 67, 68, 69);
        // At the end one shift costs as much as one change.
        dueRow(text(1, 2, 3, 'a'), 103, 65, 66, 67, 98, 65);
        dueRow(text(1, 2, 3, 'a', 'b'), 103, 65, 66, 67, 100, 65, 66);
        CHECKS.sentence("100, in A and C: it is B; 101, in B and C: it is A.");
        // There is no shift in C: one sign costs a change of the set, and one back.
        dueRow(text('1', '2', '3', '4', 'a', '5', '6', '7', '8'), 105, 12, 34, 100, 65, 99, 56, 78);
        dueRow(text('1', '2', '3', '4', 1, '5', '6', '7', '8'), 105, 12, 34, 101, 65, 99, 56, 78);
        dueRow(text('1', '2', '3', '4', 'A', '5', '6', '7', '8'), 105, 12, 34, 100, 33, 99, 56, 78);
    }

    private static void runsOfFigures() {
        CHECKS.sentence("of all rows that tell it, one with the fewest symbols");
        dueRow("12a", 104, 17, 18, 65);
        dueRow("123a", 104, 17, 18, 19, 65);
        dueRow("1234a", 105, 12, 34, 100, 65);
        dueRow("a12", 104, 65, 17, 18);
        dueRow("a123", 104, 65, 17, 18, 19);
        dueRow("a1234", 104, 65, 99, 12, 34);
        dueRow("a12a", 104, 65, 17, 18, 65);
        dueRow("a1234a", 104, 65, 17, 18, 19, 20, 65);
        dueRow("a12345a", 104, 65, 17, 18, 19, 20, 21, 65);
        dueRow("a123456a", 104, 65, 99, 12, 34, 56, 100, 65);
        dueRow("a1234567a", 104, 65, 17, 99, 23, 45, 67, 100, 65);
        dueRow("123", 103, 17, 18, 19);
        dueRow("1234", 105, 12, 34);
        dueRow("12345", 103, 17, 99, 23, 45);
        dueRow("12345a", 105, 12, 34, 100, 21, 65);
        // A mark among the figures goes along with them.
        dueRow(text('a', '1', '2', M, '3', '4'), 104, 65, 99, 12, 102, 34);
        dueRow(text('a', '1', '2', '3', M, '4'), 104, 65, 17, 18, 19, 102, 20);
    }

    private static void equalLengths() {
        CHECKS.sentence("of these the one whose symbols are the least, from the first one on");
        // The first symbol: A where A, B and C cost the same, B where B and C do.
        dueRow(text(M, M), 103, 102, 102);
        dueRow("1", 103, 17);
        dueRow("12a", 104, 17, 18, 65);
        dueRow(text('1', '2', 1), 103, 17, 18, 65);
        // A later one: to B for what A and B tell alike.
        dueRow("1234A", 105, 12, 34, 100, 33);
        // Ahead of a mark, not behind it; with signs between as late as can be.
        dueRow(text('1', '2', '3', '4', M, M, 'a'), 105, 12, 34, 100, 102, 102, 65);
        dueRow(text('1', '2', '3', '4', M, M, 1), 105, 12, 34, 101, 102, 102, 65);
        dueRow(text(1, 2, 'A', M, 'a', 'b'), 103, 65, 66, 33, 100, 102, 65, 66);
        dueRow(text(1, 2, M, 'A', 'a', 'b'), 103, 65, 66, 100, 102, 33, 65, 66);
        dueRow(text('a', 'b', M, '1', '2', '3', '4'), 104, 65, 66, 99, 102, 12, 34);
        dueRow(text('a', 'b', 'A', M, 1, 2), 104, 65, 66, 33, 101, 102, 65, 66);
        // Through C from a sign of A to one of B, and on from there by the lesser symbol.
        dueRow(text(1, 2, '1', '2', '3', '4', '5', '6', 'a', 'b'), 103, 65, 66, 99, 12, 34, 56, 100, 65, 66);
        dueRow(text('a', 'b', '1', '2', '3', '4', '5', '6', 1, 2), 104, 65, 66, 99, 12, 34, 56, 101, 65, 66);
    }

    private static void checkSymbolsComeRoundToZero() {
        CHECKS.sentence("the first symbol and each other one times its place (1, 2, ..) together modulo 103");
        for (int sign = 0; sign < 128; sign++) {
            int first = sign < 96 ? 103 : 104;
            int symbol = sign < 32 ? sign + 64 : sign - 32;
            dueCheck(text(sign), (first + symbol) % 103);
        }
        // 103, the first symbol alone; 103 + 0; 103 + 102, one less than twice 103.
        dueCheck(text(), 0);
        dueCheck(text(32), 0);
        dueCheck(text(M), 102);
        // 105 + 99 + 2 * 1 is twice 103; then one less, and one more.
        dueCheck(text('9', '9', '0', '1'), 0);
        dueCheck(text('9', '8', '0', '1'), 102);
        dueCheck(text('9', '8', '0', '2'), 1);
        // 105 + (1 + 2 + .. + 32) * 99 is 105 + 528 * 99.
        dueCheck(filled(64, '9'), (105 + 528 * 99) % 103);
    }

    private static void dueCheck(int[] text, int check) {
        LineCodes x = Codes.withText(text);
        int count = x.pack();
        CHECKS.due("the check symbol of " + Codes.list(text), x.symbol(count - 2), check);
        x.bars(1);
        CHECKS.due("read() of it", x.read(), text.length);
    }

    private static void packingAgain() {
        CHECKS.sentence("The row of the text becomes the row");
        LineCodes x = Codes.withText(filled(64, 'a', 1));
        CHECKS.due("pack() of a full text", x.pack(), 99);
        CHECKS.due("pack() again", x.pack(), 99);
        CHECKS.due("a write behind the full text", x.write(1, 65), -1);
        CHECKS.due("pack() after it", x.pack(), 99);
        CHECKS.due("wipe()", x.wipe(), 64);
        CHECKS.due("the row is there still", x.symbol(98), 106);
        x.write(1, 'A');
        CHECKS.due("the row is the old one still", x.symbol(98), 106);
        CHECKS.due("pack() of one sign", x.pack(), 4);
        CHECKS.due("its row", Codes.row(x), Codes.list(103, 33, Codes.checkOf(103, 33), 106));
        CHECKS.due("what stood behind it", x.symbol(98), -1);
    }

    private static void symbolsOfTheRow() {
        CHECKS.sentence("Symbol i of the row; NONE when there is none.");
        for (int signs : new int[] {0, 1, 2, 63, 64}) {
            LineCodes x = Codes.withText(filled(signs, 'A'));
            x.pack();
            CHECKS.due("the first of " + signs, x.symbol(0), 103);
            CHECKS.due("the last of " + signs, x.symbol(signs + 2), 106);
            for (int i : new int[] {signs + 3, -1, 99, 107, 1 << 16, Integer.MIN_VALUE, Integer.MAX_VALUE}) {
                CHECKS.due("symbol(" + i + ") of " + signs, x.symbol(i), -1);
            }
        }
        LineCodes none = Codes.withText('A');
        CHECKS.due("symbol(0) of a text that isn't packed", none.symbol(0), -1);
    }

    private static void modules() {
        CHECKS.sentence("IllegalArgumentException: module is not 1 .. 50.");
        LineCodes x = new LineCodes();
        x.pack();
        for (int module = 1; module <= 50; module++) {
            CHECKS.due("bars(" + module + ")", x.bars(module), 19);
            CHECKS.due("the first width", x.width(0), 2 * module);
            CHECKS.due("the last width", x.width(18), 2 * module);
        }
        for (int module : new int[] {0, 51, -1, 257, 1 << 16, Integer.MIN_VALUE, Integer.MAX_VALUE}) {
            CHECKS.dueThrows("bars(" + module + ")", IllegalArgumentException.class, () -> x.bars(module));
            CHECKS.due("the strip's first width then", x.width(0), 100);
        }
    }

    private static void noRow() {
        CHECKS.sentence("IllegalStateException: there is no row.");
        LineCodes x = Codes.withText('A', 'B');
        CHECKS.dueThrows("bars(1) of a text that isn't packed", IllegalStateException.class, () -> x.bars(1));
        CHECKS.dueThrows("bars(50) of it", IllegalStateException.class, () -> x.bars(50));
        // A strip that was read makes no row.
        x.thirteen(0, 1);
        x.read();
        CHECKS.dueThrows("bars(1) behind thirteen()", IllegalStateException.class, () -> x.bars(1));
        CHECKS.due("the strip then", x.clear(), 59);
        CHECKS.sentence("the one named first when several would do");
        CHECKS.dueThrows("bars(0) without a row", IllegalArgumentException.class, () -> x.bars(0));
        CHECKS.dueThrows("bars(51) without a row", IllegalArgumentException.class, () -> x.bars(51));
        CHECKS.sentence("The strip becomes the widths of the row");
        x.pack();
        x.wipe();
        CHECKS.due("bars(1) of a row whose text is wiped", x.bars(1), 31);
        x.clear();
        CHECKS.due("bars(1) again, the strip cleared", x.bars(1), 31);
    }

    private static void theStripIsReplaced() {
        CHECKS.sentence("The strip becomes the widths of the row. Answers how many there are.");
        for (int had : new int[] {0, 1, 19, 20, 782, 799, 800}) {
            LineCodes x = Codes.withStrip(Codes.ones(had));
            x.pack();
            CHECKS.due("bars(1) over " + had, x.bars(1), 19);
            CHECKS.due("the last width", x.width(18), 2);
            CHECKS.due("none behind it", x.width(19), -1);
        }
        for (int signs = 0; signs <= 64; signs++) {
            LineCodes x = Codes.withText(filled(signs, 'A'));
            x.pack();
            CHECKS.due("bars(1) of " + signs, x.bars(1), 6 * (signs + 3) + 1);
        }
        LineCodes longest = Codes.withText(filled(64, 'a', 1));
        longest.pack();
        CHECKS.due("bars(1) of the longest row", longest.bars(1), 595);
        CHECKS.due("its last width", longest.width(594), 2);
        CHECKS.due("none behind it", longest.width(595), -1);
    }

    private static void eachTimesModule() {
        CHECKS.sentence("each times module");
        LineCodes x = new LineCodes();
        x.pack();
        x.bars(50);
        CHECKS.due("the widths", Codes.strip(x), Codes.list(
            100, 50, 50, 200, 50, 100, 100, 50, 100, 100, 100, 100, 100, 150, 150, 50, 50, 50, 100));
    }
}
