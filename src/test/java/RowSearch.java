import java.util.ArrayList;
import java.util.HashSet;
import java.util.List;
import java.util.Set;

/** Tries rows symbol by symbol from the least one on, under a growing limit of their number. */
final class RowSearch {
    private final int[] text;
    private final List<Integer> row = new ArrayList<>();
    private final Set<Integer> dead = new HashSet<>();

    RowSearch(int[] text) {
        this.text = text;
    }

    int[] leastRow() {
        for (int limit = 0; ; limit++) {
            for (int first = 103; first <= 105; first++) {
                row.clear();
                row.add(first);
                if (reaches(0, "ABC".charAt(first - 103), limit)) {
                    return row.stream().mapToInt(i -> i).toArray();
                }
            }
        }
    }

    /** Small letters are A and B for the one symbol behind a shift. */
    private boolean reaches(int place, char set, int limit) {
        if (place == text.length && Character.isUpperCase(set)) {
            return true;
        }
        int state = (place * 128 + set) * 256 + limit;
        if (limit == 0 || dead.contains(state)) {
            return false;
        }
        for (int symbol = 0; symbol <= 102; symbol++) {
            row.add(symbol);
            if (goesOn(place, set, symbol, limit - 1)) {
                return true;
            }
            row.remove(row.size() - 1);
        }
        dead.add(state);
        return false;
    }

    private boolean goesOn(int place, char set, int symbol, int limit) {
        if (set == 'a' || set == 'b') {
            char back = set == 'a' ? 'B' : 'A';
            return symbol <= 95 && tells(place, signIn(Character.toUpperCase(set), symbol))
                && reaches(place + 1, back, limit);
        }
        if (symbol == 102) {
            return tells(place, Codes.MARK) && reaches(place + 1, set, limit);
        }
        if (set == 'C' && symbol <= 99) {
            return tells(place, '0' + symbol / 10) && tells(place + 1, '0' + symbol % 10)
                && reaches(place + 2, set, limit);
        }
        if (symbol <= 95) {
            return tells(place, signIn(set, symbol)) && reaches(place + 1, set, limit);
        }
        return switch (symbol) {
            case 98 -> reaches(place, set == 'A' ? 'b' : 'a', limit);
            case 99 -> reaches(place, 'C', limit);
            case 100 -> set != 'B' && reaches(place, 'B', limit);
            case 101 -> set != 'A' && reaches(place, 'A', limit);
            default -> false;
        };
    }

    private static int signIn(char set, int symbol) {
        return set == 'A' && symbol >= 64 ? symbol - 64 : symbol + 32;
    }

    private boolean tells(int place, int sign) {
        return place < text.length && text[place] == sign;
    }
}
