import java.util.ArrayList;
import java.util.Arrays;
import java.util.List;

/** What the document's tables say, taken from its text, and short ways to fill and look at objects. */
final class Codes {
    static final int MARK = 128;

    static final String[] SYMBOLS = (
        "212222 222122 222221 121223 121322 131222 122213 122312 132212 221213 221312 231212 "
        + "112232 122132 122231 113222 123122 123221 223211 221132 221231 213212 223112 312131 "
        + "311222 321122 321221 312212 322112 322211 212123 212321 232121 111323 131123 131321 "
        + "112313 132113 132311 211313 231113 231311 112133 112331 132131 113123 113321 133121 "
        + "313121 211331 231131 213113 213311 213131 311123 311321 331121 312113 312311 332111 "
        + "314111 221411 431111 111224 111422 121124 121421 141122 141221 112214 112412 122114 "
        + "122411 142112 142211 241211 221114 413111 241112 134111 111242 121142 121241 114212 "
        + "124112 124211 411212 421112 421211 212141 214121 412121 111143 111341 131141 114113 "
        + "114311 411113 411311 113141 114131 311141 411131 211412 211214 211232 2331112").split(" ");

    static final String[] FIGURES = "3211 2221 2122 1411 1132 1231 1114 1312 1213 3112".split(" ");

    static final String[] TURNS =
        "000000 001011 001101 001110 010011 011001 011100 010101 010110 011010".split(" ");

    private Codes() {
    }

    /** The widths of a first symbol and what follows, with the check symbol and the last one behind them. */
    static String closed(int... symbols) {
        return widthsOf(symbols) + SYMBOLS[checkOf(symbols)] + SYMBOLS[106];
    }

    static String widthsOf(int... symbols) {
        StringBuilder widths = new StringBuilder();
        for (int symbol : symbols) {
            widths.append(SYMBOLS[symbol]);
        }
        return widths.toString();
    }

    static int checkOf(int... symbols) {
        int sum = symbols[0];
        for (int i = 1; i < symbols.length; i++) {
            sum += i * symbols[i];
        }
        return sum % 103;
    }

    /** Thirteen figures as they are, be they right or wrong, with these turns of the last twelve. */
    static String thirteen(String figures, String turns) {
        StringBuilder widths = new StringBuilder("111");
        for (int i = 1; i < 13; i++) {
            StringBuilder figure = new StringBuilder(FIGURES[figures.charAt(i) - '0']);
            widths.append(turns.charAt(i - 1) == '1' ? figure.reverse() : figure);
            widths.append(i == 6 ? "11111" : "");
        }
        return widths.append("111").toString();
    }

    static int[] scaled(String widths, int module) {
        return widths.chars().map(c -> (c - '0') * module).toArray();
    }

    static int[] ones(int count) {
        int[] ones = new int[count];
        Arrays.fill(ones, 1);
        return ones;
    }

    static int[] turned(int[] widths) {
        int[] other = new int[widths.length];
        for (int i = 0; i < widths.length; i++) {
            other[i] = widths[widths.length - 1 - i];
        }
        return other;
    }

    /** Makes these the strip, the wide ones by spoil(), as put() takes bytes. */
    static void fillStrip(LineCodes x, int... widths) {
        x.clear();
        for (int from = 0; from < widths.length; from += 8) {
            int n = Math.min(8, widths.length - from);
            long bytes = 0;
            for (int i = 0; i < n; i++) {
                bytes |= (long) Math.min(widths[from + i], 255) << 8 * i;
            }
            x.put(n, bytes);
        }
        for (int i = 0; i < widths.length; i++) {
            if (widths[i] > 255) {
                x.spoil(i, widths[i]);
            }
        }
    }

    static void fillText(LineCodes x, int... signs) {
        x.wipe();
        for (int from = 0; from < signs.length; from += 8) {
            int n = Math.min(8, signs.length - from);
            long bytes = 0;
            for (int i = 0; i < n; i++) {
                bytes |= (long) signs[from + i] << 8 * i;
            }
            x.write(n, bytes);
        }
    }

    static LineCodes withStrip(int... widths) {
        LineCodes x = new LineCodes();
        fillStrip(x, widths);
        return x;
    }

    static LineCodes withText(int... signs) {
        LineCodes x = new LineCodes();
        fillText(x, signs);
        return x;
    }

    static int[] signsOf(String text) {
        return text.chars().toArray();
    }

    static List<Integer> row(LineCodes x) {
        List<Integer> all = new ArrayList<>();
        for (int i = 0; x.symbol(i) != LineCodes.NONE; i++) {
            all.add(x.symbol(i));
        }
        return all;
    }

    static List<Integer> strip(LineCodes x) {
        List<Integer> all = new ArrayList<>();
        for (int i = 0; x.width(i) != LineCodes.NONE; i++) {
            all.add(x.width(i));
        }
        return all;
    }

    static List<Integer> told(LineCodes x) {
        List<Integer> all = new ArrayList<>();
        for (int i = 0; x.sign(i) != LineCodes.NONE; i++) {
            all.add(x.sign(i));
        }
        return all;
    }

    /** All that can be seen of an object without changing it. */
    static String seen(LineCodes x) {
        return row(x) + " " + strip(x) + " " + told(x) + " " + x.backwards();
    }

    static List<Integer> list(int... numbers) {
        return Arrays.stream(numbers).boxed().toList();
    }
}
