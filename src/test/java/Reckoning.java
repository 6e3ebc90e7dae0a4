import java.util.ArrayList;
import java.util.Arrays;
import java.util.Collections;
import java.util.List;

/** The document reckoned a second time, plainly and without thrift, to hold the program against. */
final class Reckoning {
    private static final int NONE = -1;
    private static final List<String> SYMBOLS = Arrays.stream(Codes.SYMBOLS).map(Reckoning::commas).toList();
    private static final List<String> FIGURES = Arrays.stream(Codes.FIGURES).map(Reckoning::commas).toList();

    private final List<Integer> text = new ArrayList<>();
    private final List<Integer> row = new ArrayList<>();
    private final List<Integer> strip = new ArrayList<>();
    private List<Integer> told = new ArrayList<>();
    private boolean back = false;

    int write(int n, long signs) {
        List<Integer> bytes = bytes(n, signs);
        if (bytes.stream().anyMatch(sign -> sign > 128)) {
            throw new IllegalArgumentException();
        }
        return added(text, bytes, 64);
    }

    int wipe() {
        int had = text.size();
        text.clear();
        return had;
    }

    int pack() {
        int[] symbols = new RowSearch(text.stream().mapToInt(i -> i).toArray()).leastRow();
        row.clear();
        row.addAll(Codes.list(symbols));
        row.add(Codes.checkOf(symbols));
        row.add(106);
        return row.size();
    }

    int symbol(int i) {
        return at(row, i);
    }

    int bars(int module) {
        if (module < 1 || module > 50) {
            throw new IllegalArgumentException();
        }
        if (row.isEmpty()) {
            throw new IllegalStateException();
        }
        strip.clear();
        for (int symbol : row) {
            strip.addAll(Codes.list(Codes.scaled(Codes.SYMBOLS[symbol], module)));
        }
        return strip.size();
    }

    int checkFigure(long twelve) {
        if (twelve < 0 || twelve > 999999999999L) {
            throw new IllegalArgumentException();
        }
        String figures = String.format("%012d", twelve);
        int check = 0;
        while (!isMultipleOfTen(figures + check)) {
            check++;
        }
        return check;
    }

    int thirteen(long twelve, int module) {
        String figures = String.format("%012d", twelve) + checkFigure(twelve);
        if (module < 1 || module > 50) {
            throw new IllegalArgumentException();
        }
        String turns = Codes.TURNS[figures.charAt(0) - '0'] + "000000";
        strip.clear();
        strip.addAll(Codes.list(Codes.scaled(Codes.thirteen(figures, turns), module)));
        return 59;
    }

    int put(int n, long widths) {
        List<Integer> bytes = bytes(n, widths);
        if (bytes.contains(0)) {
            throw new IllegalArgumentException();
        }
        return added(strip, bytes, 800);
    }

    int clear() {
        int had = strip.size();
        strip.clear();
        return had;
    }

    int width(int i) {
        return at(strip, i);
    }

    int spoil(int i, int width) {
        if (i < 0 || i >= strip.size()) {
            throw new IndexOutOfBoundsException();
        }
        if (width < 1 || width > 2000) {
            throw new IllegalArgumentException();
        }
        return strip.set(i, width);
    }

    int turn() {
        Collections.reverse(strip);
        return strip.size();
    }

    int read() {
        List<Integer> other = new ArrayList<>(strip);
        Collections.reverse(other);
        List<Integer> front = readFromFront(strip);
        List<Integer> behind = front == null ? readFromFront(other) : null;
        back = behind != null;
        told = front != null ? front : back ? behind : new ArrayList<>();
        return front != null || back ? told.size() : NONE;
    }

    int sign(int i) {
        return at(told, i);
    }

    boolean backwards() {
        return back;
    }

    private static List<Integer> bytes(int n, long all) {
        if (n < 1 || n > 8) {
            throw new IllegalArgumentException();
        }
        List<Integer> bytes = new ArrayList<>();
        for (int i = 0; i < n; i++) {
            bytes.add((int) (all >> 8 * i) & 255);
        }
        return bytes;
    }

    private static int added(List<Integer> to, List<Integer> more, int most) {
        if (to.size() + more.size() > most) {
            return NONE;
        }
        to.addAll(more);
        return to.size();
    }

    private static int at(List<Integer> all, int i) {
        return i >= 0 && i < all.size() ? all.get(i) : NONE;
    }

    private static boolean isMultipleOfTen(String figures) {
        int sum = 0;
        for (int i = 1; i <= figures.length(); i++) {
            sum += (figures.charAt(i - 1) - '0') * (i % 2 == 1 ? 1 : 3);
        }
        return sum % 10 == 0;
    }

    private static List<Integer> readFromFront(List<Integer> strip) {
        int size = strip.size();
        if (size == 59) {
            return readThirteen(strip);
        }
        return size >= 19 && size % 6 == 1 ? readRow(strip) : null;
    }

    private static int sum(List<Integer> widths) {
        return widths.stream().mapToInt(i -> i).sum();
    }

    /** Each count with a comma behind it, so that those of two figures can't be mistaken. */
    private static String counts(List<Integer> widths, int sum, int modules) {
        StringBuilder counts = new StringBuilder();
        for (int width : widths) {
            int nearest = 0;
            for (int count = 1; count <= modules + 1; count++) {
                int far = Math.abs(width * modules - count * sum);
                nearest = far <= Math.abs(width * modules - nearest * sum) ? count : nearest;
            }
            counts.append(nearest).append(',');
        }
        return counts.toString();
    }

    private static String commas(String widths) {
        return widths.replaceAll("(.)", "$1,");
    }

    private static List<Integer> readThirteen(List<Integer> strip) {
        int all = sum(strip);
        if (!counts(strip.subList(0, 3), all, 95).equals("1,1,1,")
            || !counts(strip.subList(27, 32), all, 95).equals("1,1,1,1,1,")
            || !counts(strip.subList(56, 59), all, 95).equals("1,1,1,")) {
            return null;
        }
        StringBuilder figures = new StringBuilder();
        StringBuilder turns = new StringBuilder();
        for (int i = 0; i < 12; i++) {
            int from = 3 + 4 * i + (i < 6 ? 0 : 5);
            List<Integer> four = new ArrayList<>(strip.subList(from, from + 4));
            int figure = FIGURES.indexOf(counts(four, sum(four), 7));
            Collections.reverse(four);
            int turned = FIGURES.indexOf(counts(four, sum(four), 7));
            if (figure == NONE && turned == NONE) {
                return null;
            }
            figures.append(Math.max(figure, turned));
            turns.append(figure == NONE ? 1 : 0);
        }
        int first = Arrays.asList(Codes.TURNS).indexOf(turns.substring(0, 6));
        if (first == NONE || !turns.substring(6).equals("000000") || !isMultipleOfTen(first + figures.toString())) {
            return null;
        }
        return Codes.list(Codes.signsOf(first + figures.toString()));
    }

    private static List<Integer> readRow(List<Integer> strip) {
        int behind = strip.size() - 7;
        List<Integer> seven = strip.subList(behind, strip.size());
        if (!counts(seven, sum(seven), 13).equals(SYMBOLS.get(106))) {
            return null;
        }
        List<Integer> symbols = new ArrayList<>();
        for (int from = 0; from < behind; from += 6) {
            List<Integer> six = strip.subList(from, from + 6);
            symbols.add(SYMBOLS.indexOf(counts(six, sum(six), 11)));
        }
        int check = symbols.remove(symbols.size() - 1);
        boolean known = !symbols.contains(NONE);
        return known && check == Codes.checkOf(symbols.stream().mapToInt(i -> i).toArray()) ? signs(symbols) : null;
    }

    private static List<Integer> signs(List<Integer> symbols) {
        if (symbols.get(0) < 103) {
            return null;
        }
        char set = "ABC".charAt(symbols.get(0) - 103);
        List<Integer> signs = new ArrayList<>();
        for (int i = 1; i < symbols.size(); i++) {
            int symbol = symbols.get(i);
            char telling = set;
            if (symbol == 98 && set != 'C') {
                i++;
                if (i == symbols.size() || symbols.get(i) > 95) {
                    return null;
                }
                symbol = symbols.get(i);
                telling = set == 'A' ? 'B' : 'A';
            }
            String step = step(telling, symbol);
            switch (step) {
                case "sign" -> signs.add(telling == 'B' || symbol < 64 ? symbol + 32 : symbol - 64);
                case "pair" -> signs.addAll(Codes.list('0' + symbol / 10, '0' + symbol % 10));
                case "mark" -> signs.add(128);
                case "A", "B", "C" -> set = step.charAt(0);
                default -> {
                    return null;
                }
            }
        }
        return signs;
    }

    private static String step(char set, int symbol) {
        if (symbol <= (set == 'C' ? 99 : 95)) {
            return set == 'C' ? "pair" : "sign";
        }
        return switch (symbol + " " + set) {
            case "102 A", "102 B", "102 C" -> "mark";
            case "99 A", "99 B" -> "C";
            case "100 A", "100 C" -> "B";
            case "101 B", "101 C" -> "A";
            default -> "nothing";
        };
    }
}
