import java.util.Arrays;

/** The edges that promises 14 to 16 name, and the terms of reading, a sentence each. */
public final class ReadEdgesTest {
    private static final Checks CHECKS = new Checks();
    private static final Reads READS = new Reads(CHECKS);
    private static final int A = 103;
    private static final int B = 104;
    private static final int C = 105;

    public static void main(String[] args) {
        twoSymbolsAtLeast();
        everyLengthOfARow();
        everyOtherLength();
        fiftyNineWidths();
        firstSymbols();
        edgesOfA();
        edgesOfB();
        edgesOfC();
        behindAShift();
        theCheckSymbol();
        onlySixWidthsMakeASymbol();
        checkFigures();
        turnsOfTheFirstFigure();
        frontThenBack();
        nothingWasRead();
        theStripStays();
        signsOfWhatWasRead();
        readingIsKept();
        backwardsOrNot();
        CHECKS.end();
    }

    private static void dueRow(int[] symbols, int... signs) {
        READS.dueTold(Codes.scaled(Codes.closed(symbols), 1), signs);
    }

    private static void dueNoRow(int... symbols) {
        READS.dueRefused(Codes.scaled(Codes.closed(symbols), 1));
    }

    private static int[] symbols(int... symbols) {
        return symbols;
    }

    private static int[] lettersInB(int count) {
        int[] symbols = new int[count + 1];
        Arrays.fill(symbols, 65);
        symbols[0] = B;
        return symbols;
    }

    private static int[] drawn(String widths) {
        return Codes.scaled(widths, 1);
    }

    private static void twoSymbolsAtLeast() {
        CHECKS.sentence("A strip of 6 k + 7 widths, k 2 or more");
        READS.dueTold(drawn(Codes.closed(A)));
        READS.dueRefused(drawn(Codes.SYMBOLS[106]));
        for (int symbol = 0; symbol <= 105; symbol++) {
            READS.dueRefused(drawn(Codes.widthsOf(symbol, 106)));
        }
    }

    private static void everyLengthOfARow() {
        CHECKS.sentence("A strip of 6 k + 7 widths, k 2 or more, is a row of symbols");
        for (int k = 2; k <= 132; k++) {
            LineCodes x = Codes.withStrip(drawn(Codes.closed(lettersInB(k - 2))));
            CHECKS.due("read() with k " + k, x.read(), k - 2);
            CHECKS.due("turn()", x.turn(), 6 * k + 7);
            CHECKS.due("read() from the back with k " + k, x.read(), k - 2);
            CHECKS.due("backwards()", x.backwards(), true);
            CHECKS.due("one more width", x.put(1, 1), 6 * k + 8);
            CHECKS.due("read() with one more", x.read(), -1);
        }
    }

    private static void everyOtherLength() {
        CHECKS.sentence("Answers .. NONE when it is nothing");
        int[] longest = drawn(Codes.closed(lettersInB(130)));
        for (int length = 0; length < longest.length; length++) {
            CHECKS.due("read() of " + length, Codes.withStrip(Arrays.copyOf(longest, length)).read(), -1);
        }
        CHECKS.due("read() of 799", Codes.withStrip(longest).read(), 130);
        int[] full = Arrays.copyOf(longest, 800);
        full[799] = 1;
        CHECKS.due("read() of 800", Codes.withStrip(full).read(), -1);
        CHECKS.due("read() of 800, turned", Codes.withStrip(Codes.turned(full)).read(), -1);
        // Up to six widths more, at any place: with six it is as long as a row, but none.
        String row = Codes.closed(B, 65, 66);
        for (int place = 0; place <= row.length(); place++) {
            for (int more = 1; more <= 6; more++) {
                String longer = row.substring(0, place) + "1".repeat(more) + row.substring(place);
                CHECKS.due("read() with " + more + " more at " + place, Codes.withStrip(drawn(longer)).read(), -1);
            }
        }
    }

    private static void fiftyNineWidths() {
        CHECKS.sentence("A strip of 59 widths is of thirteen figures if");
        LineCodes x = new LineCodes();
        x.thirteen(400638133393L, 1);
        CHECKS.due("read() of 59", x.read(), 13);
        x.put(1, 1);
        CHECKS.due("read() of 60", x.read(), -1);
        int[] right = drawn(Codes.thirteen("4006381333931", Codes.TURNS[4] + "000000"));
        READS.dueRefused(Arrays.copyOf(right, 58));
        READS.dueRefused(Arrays.copyOfRange(right, 1, 59));
        // 55 and 61 widths are rows with k 8 and 9; 59 of the longer one are nothing.
        dueRow(lettersInB(6), 97, 97, 97, 97, 97, 97);
        dueRow(lettersInB(7), 97, 97, 97, 97, 97, 97, 97);
        READS.dueRefused(Arrays.copyOf(drawn(Codes.closed(lettersInB(7))), 59));
        READS.dueRefused(Codes.ones(59));
    }

    private static void firstSymbols() {
        CHECKS.sentence("A ROW begins with 103, 104 or 105");
        dueRow(symbols(A, 64), 0);
        dueRow(symbols(B, 64), 96);
        dueRow(symbols(C, 64), '6', '4');
        dueNoRow(102, 64);
        dueNoRow(102);
        dueNoRow(0);
        // 106 has seven widths; its first six are no symbol.
        READS.dueRefused(drawn("233111" + Codes.widthsOf(106 % 103, 106)));
    }

    private static void edgesOfA() {
        CHECKS.sentence("A: 0 .. 63 tell the sign that is 32 more, 64 .. 95 the one that is 64 less.");
        dueRow(symbols(A, 0), 32);
        dueRow(symbols(A, 63), 95);
        dueRow(symbols(A, 64), 0);
        dueRow(symbols(A, 95), 31);
        CHECKS.sentence("What isn't named here can't stand in a row (96 and 97 in A, 101 in A, 103 to 106)");
        dueNoRow(A, 96);
        dueNoRow(A, 97);
        dueRow(symbols(A, 98, 0), 32);
        dueRow(symbols(A, 99, 0), '0', '0');
        dueRow(symbols(A, 100, 95), 127);
        dueNoRow(A, 101);
        dueRow(symbols(A, 102), 128);
        dueNoRow(A, 103);
        dueNoRow(A, 104);
        dueNoRow(A, 105);
    }

    private static void edgesOfB() {
        CHECKS.sentence("B: 0 .. 95 tell the sign that is 32 more.");
        dueRow(symbols(B, 0), 32);
        dueRow(symbols(B, 63), 95);
        dueRow(symbols(B, 64), 96);
        dueRow(symbols(B, 95), 127);
        CHECKS.sentence("What isn't named here can't stand in a row (96 and 97 in B, 100 in B, 103 to 106)");
        dueNoRow(B, 96);
        dueNoRow(B, 97);
        dueRow(symbols(B, 98, 64), 0);
        dueRow(symbols(B, 99, 99), '9', '9');
        dueNoRow(B, 100);
        dueRow(symbols(B, 101, 95), 31);
        dueRow(symbols(B, 102), 128);
        dueNoRow(B, 103);
        dueNoRow(B, 104);
        dueNoRow(B, 105);
    }

    private static void edgesOfC() {
        CHECKS.sentence("C: 0 .. 99 tell the signs of two figures");
        dueRow(symbols(C, 0), '0', '0');
        dueRow(symbols(C, 9), '0', '9');
        dueRow(symbols(C, 10), '1', '0');
        dueRow(symbols(C, 95), '9', '5');
        dueRow(symbols(C, 96), '9', '6');
        dueRow(symbols(C, 97), '9', '7');
        CHECKS.sentence("98, in A and B alone; 99, in A and B");
        dueRow(symbols(C, 98, 65), '9', '8', '6', '5');
        dueRow(symbols(C, 98, 102), '9', '8', 128);
        dueRow(symbols(C, 98), '9', '8');
        dueRow(symbols(C, 99, 99), '9', '9', '9', '9');
        CHECKS.sentence("100, in A and C: it is B; 101, in B and C: it is A.");
        dueRow(symbols(C, 100, 95), 127);
        dueRow(symbols(C, 101, 95), 31);
        dueRow(symbols(C, 102), 128);
        CHECKS.sentence("What isn't named here can't stand in a row (103 to 106 elsewhere)");
        dueNoRow(C, 103);
        dueNoRow(C, 104);
        dueNoRow(C, 105);
    }

    private static void behindAShift() {
        CHECKS.sentence("the next symbol is one of 0 .. 95, and tells what it tells in the other one of A and B");
        dueRow(symbols(A, 98, 0), 32);
        dueRow(symbols(A, 98, 63), 95);
        dueRow(symbols(A, 98, 64), 96);
        dueRow(symbols(A, 98, 95), 127);
        dueRow(symbols(B, 98, 0), 32);
        dueRow(symbols(B, 98, 63), 95);
        dueRow(symbols(B, 98, 64), 0);
        dueRow(symbols(B, 98, 95), 31);
        for (int symbol = 96; symbol <= 105; symbol++) {
            dueNoRow(A, 98, symbol);
            dueNoRow(B, 98, symbol);
            dueNoRow(A, 98, symbol, 65);
            dueNoRow(B, 98, symbol, 65);
        }
        // One symbol only, and the set is the old one behind it.
        dueRow(symbols(A, 98, 95, 95), 127, 31);
        dueRow(symbols(B, 98, 95, 95), 31, 127);
        dueRow(symbols(C, 101, 98, 95, 95, 99, 98), 127, 31, '9', '8');
        CHECKS.sentence("Behind all that is told come the CHECK symbol");
        for (int symbol = 0; symbol <= 95; symbol++) {
            dueNoRow(A, symbol, 98);
            dueNoRow(B, symbol, 98);
        }
    }

    private static void theCheckSymbol() {
        CHECKS.sentence("the first symbol and each other one times its place (1, 2, ..) together modulo 103");
        // 103 alone is 0: neither 1 nor 102, and not 103 itself.
        dueCheck(0, A);
        // 103 + 102 is one less than twice 103, and 105 + 1 * 99 + 2 * 1 is just that.
        dueCheck(102, A, 102);
        dueCheck(0, C, 99, 1);
        dueCheck(1, B);
        dueCheck(2, C);
        // Places count on to the last one: 104 + (1 + 2 + .. + 130) * 95.
        int[] longest = new int[131];
        Arrays.fill(longest, 95);
        longest[0] = B;
        dueCheck((104 + 8515 * 95) % 103, longest);
    }

    private static void dueCheck(int check, int... symbols) {
        for (int tried = 0; tried <= 105; tried++) {
            LineCodes x = Codes.withStrip(drawn(Codes.widthsOf(symbols) + Codes.widthsOf(tried, 106)));
            CHECKS.due("read() with check symbol " + tried, x.read() != -1, tried == check);
        }
    }

    private static void onlySixWidthsMakeASymbol() {
        CHECKS.sentence("each six, but for the last seven, count as those of a symbol");
        String check = Codes.widthsOf(Codes.checkOf(B, 65), 106);
        READS.dueTold(drawn(Codes.widthsOf(B, 65) + check), 97);
        // All rows of six widths from 1 to 5 that make eleven modules: 106 of them are symbols.
        int count = 0;
        for (int six = 111111; six <= 555555; six++) {
            String widths = Integer.toString(six);
            if (widths.matches("[1-5]{6}") && widths.chars().map(c -> c - '0').sum() == 11) {
                int symbol = Arrays.asList(Codes.SYMBOLS).indexOf(widths);
                String closed = symbol < 0 ? widths + check : widths + Codes.widthsOf(Codes.checkOf(B, symbol), 106);
                boolean told = symbol >= 0 && symbol <= 95 || symbol == 99 || symbol == 101 || symbol == 102;
                LineCodes x = Codes.withStrip(drawn(Codes.widthsOf(B) + closed));
                CHECKS.due("whether " + widths + " is read in B", x.read() != -1, told);
                count += symbol < 0 ? 0 : 1;
            }
        }
        CHECKS.due("symbols found", count, 106);
    }

    private static void checkFigures() {
        CHECKS.sentence("the check figure is right");
        // Sums of 0, 9, 10 and 11 ahead of the check figure.
        dueCheckFigure("000000000000", 0);
        dueCheckFigure("000000000003", 1);
        dueCheckFigure("000000000013", 0);
        dueCheckFigure("000000000023", 9);
        dueCheckFigure("999999999999", 4);
    }

    private static void dueCheckFigure(String twelve, int check) {
        String turns = Codes.TURNS[twelve.charAt(0) - '0'] + "000000";
        for (int tried = 0; tried <= 9; tried++) {
            LineCodes x = Codes.withStrip(drawn(Codes.thirteen(twelve + tried, turns)));
            CHECKS.due("read() of " + twelve + tried, x.read(), tried == check ? 13 : -1);
        }
    }

    private static void turnsOfTheFirstFigure() {
        CHECKS.sentence("the second to the seventh are turned as by one of the first figures");
        for (int mask = 0; mask < 64; mask++) {
            String turns = String.format("%6s", Integer.toBinaryString(mask)).replace(' ', '0');
            int first = Arrays.asList(Codes.TURNS).indexOf(turns);
            int check = first < 0 ? 0 : (10 - first) % 10;
            int[] widths = drawn(Codes.thirteen("000000000000" + check, turns + "000000"));
            if (first < 0) {
                READS.dueRefused(widths);
            } else {
                READS.dueTold(widths, Codes.signsOf(first + "00000000000" + check));
            }
        }
        CHECKS.sentence("the last six of them not turned");
        for (int mask = 1; mask < 64; mask++) {
            String turns = String.format("%6s", Integer.toBinaryString(mask)).replace(' ', '0');
            READS.dueRefused(drawn(Codes.thirteen("0000000000000", "000000" + turns)));
        }
    }

    private static void frontThenBack() {
        CHECKS.sentence("Reads the strip from the front; if it is nothing so, from the back");
        int[] row = drawn(Codes.closed(C, 12, 34));
        READS.dueTold(row, '1', '2', '3', '4');
        LineCodes x = Codes.withStrip(Codes.turned(row));
        CHECKS.due("read() from the back", x.read(), 4);
        CHECKS.due("the first sign is that of the row's front", x.sign(0), (int) '1');
        CHECKS.due("the last sign", x.sign(3), (int) '4');
    }

    private static void nothingWasRead() {
        CHECKS.sentence("NONE when it is nothing, and nothing was read then");
        for (boolean back : new boolean[] {false, true}) {
            LineCodes x = Codes.withText('a', 'b');
            x.pack();
            x.bars(2);
            if (back) {
                x.turn();
            }
            x.read();
            int was = x.spoil(7, 2000);
            CHECKS.due("what was read, the strip spoiled", x.sign(1), (int) 'b');
            CHECKS.due("read() of the spoiled strip", x.read(), -1);
            CHECKS.due("sign(0) then", x.sign(0), -1);
            CHECKS.due("sign(1) then", x.sign(1), -1);
            CHECKS.due("backwards() then", x.backwards(), false);
            CHECKS.due("read() again", x.read(), -1);
            x.spoil(7, was);
            CHECKS.due("read() of the mended strip", x.read(), 2);
            CHECKS.due("sign(1) then", x.sign(1), (int) 'b');
            CHECKS.due("backwards() then", x.backwards(), back);
        }
        // Nor does a row that was refused in the midst of its symbols, in another set, leave anything to the next one.
        LineCodes x = new LineCodes();
        for (int[] refused : new int[][] {symbols(A, 65, 98), symbols(C, 12, 105), symbols(B, 98, 102)}) {
            for (int first = A; first <= C; first++) {
                Codes.fillStrip(x, drawn(Codes.closed(refused)));
                CHECKS.due("read() of a refused row", x.read(), -1);
                Codes.fillStrip(x, drawn(Codes.closed(first, 64)));
                CHECKS.due("read() of the next row", x.read(), first == C ? 2 : 1);
                CHECKS.due("its sign", x.sign(0), first == A ? 0 : first == B ? 96 : 54);
            }
        }
    }

    private static void theStripStays() {
        CHECKS.sentence("as if it were the other way round");
        LineCodes x = Codes.withText('a', 'b');
        x.pack();
        x.bars(3);
        x.turn();
        String row = Codes.row(x).toString();
        String strip = Codes.strip(x).toString();
        CHECKS.due("read()", x.read(), 2);
        CHECKS.due("the strip after it was read from the back", Codes.strip(x).toString(), strip);
        x.spoil(0, 2000);
        String spoiled = Codes.strip(x).toString();
        CHECKS.due("read() of nothing", x.read(), -1);
        CHECKS.due("the strip after it was nothing", Codes.strip(x).toString(), spoiled);
        CHECKS.due("the row", Codes.row(x).toString(), row);
        CHECKS.due("the text", x.wipe(), 2);
    }

    private static void signsOfWhatWasRead() {
        CHECKS.sentence("Sign i of what was read last; NONE when there is none.");
        int[] pairs = new int[131];
        pairs[0] = C;
        dueSigns(drawn(Codes.closed(A)), 0);
        dueSigns(drawn(Codes.closed(A, 16)), 1);
        dueSigns(drawn(Codes.thirteen("0000000000000", "000000000000")), 13);
        dueSigns(drawn(Codes.closed(Arrays.copyOf(pairs, 33))), 64);
        dueSigns(drawn(Codes.closed(Arrays.copyOf(pairs, 34))), 66);
        dueSigns(drawn(Codes.closed(pairs)), 260);
        // Fewer signs than before: those behind them are gone.
        LineCodes x = new LineCodes();
        x.thirteen(0, 1);
        x.read();
        Codes.fillText(x, 'a');
        x.pack();
        x.bars(1);
        CHECKS.due("sign(12) before it is read", x.sign(12), (int) '0');
        x.read();
        CHECKS.due("sign(0) then", x.sign(0), (int) 'a');
        CHECKS.due("sign(1) then", x.sign(1), -1);
        CHECKS.due("sign(12) then", x.sign(12), -1);
    }

    /** All signs are 0s. */
    private static void dueSigns(int[] widths, int count) {
        LineCodes x = Codes.withStrip(widths);
        CHECKS.due("sign(0) before it is read", x.sign(0), -1);
        CHECKS.due("read()", x.read(), count);
        CHECKS.due("the first of " + count, x.sign(0), count == 0 ? -1 : '0');
        CHECKS.due("the last of " + count, x.sign(count - 1), count == 0 ? -1 : '0');
        for (int i : new int[] {count, count + 1, -1, 260, 1 << 16, Integer.MIN_VALUE, Integer.MAX_VALUE}) {
            CHECKS.due("sign(" + i + ") of " + count, x.sign(i), -1);
        }
    }

    private static void readingIsKept() {
        CHECKS.sentence("what was read last");
        LineCodes x = Codes.withStrip(Codes.turned(drawn(Codes.closed(C, 12))));
        x.read();
        x.spoil(0, 2000);
        x.put(1, 1);
        x.turn();
        x.clear();
        x.thirteen(0, 1);
        x.write(1, 65);
        x.pack();
        x.bars(1);
        x.wipe();
        CHECKS.due("sign(0) after other calls", x.sign(0), (int) '1');
        CHECKS.due("sign(1) after other calls", x.sign(1), (int) '2');
        CHECKS.due("sign(2) after other calls", x.sign(2), -1);
        CHECKS.due("backwards() after other calls", x.backwards(), true);
    }

    private static void backwardsOrNot() {
        CHECKS.sentence("Whether what was read last was read from the back; false when nothing was read.");
        LineCodes x = new LineCodes();
        CHECKS.due("backwards() of a new object", x.backwards(), false);
        x.thirteen(0, 1);
        x.turn();
        CHECKS.due("backwards() before read()", x.backwards(), false);
        x.read();
        CHECKS.due("backwards() of a turned strip", x.backwards(), true);
        x.turn();
        CHECKS.due("backwards() after turn(), not read again", x.backwards(), true);
        x.read();
        CHECKS.due("backwards() of the strip turned back", x.backwards(), false);
        x.turn();
        x.read();
        x.clear();
        CHECKS.due("backwards() after clear()", x.backwards(), true);
        x.read();
        CHECKS.due("backwards() when nothing was read", x.backwards(), false);
        // Nothing told is not nothing read.
        x.pack();
        x.bars(1);
        x.turn();
        CHECKS.due("read() of the empty text", x.read(), 0);
        CHECKS.due("backwards() of it", x.backwards(), true);
    }
}
