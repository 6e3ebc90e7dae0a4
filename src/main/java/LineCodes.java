/**
 * Codes of bars: texts as rows of symbols over three sets, numbers of thirteen figures, both as
 * strips of widths that can be spoiled and read back from either end.
 */
public final class LineCodes {
    public static final int NONE = -1;

    private static final int MOST_SIGNS = 64;
    private static final int MOST_WIDTHS = 800;
    private static final int MOST_WIDTH = 2000;
    private static final int MOST_MODULE = 50;
    private static final int MOST_BYTES = 8;
    private static final long MOST_TWELVE = 999999999999L;

    /**
     * The first, the check and the last symbol, and 96 between: staying in A costs a symbol more
     * for each sign above 95, staying in B for each below 32, so the better one of the two costs
     * at most half as many more as there are signs.
     */
    private static final int MOST_SYMBOLS = 3 + MOST_SIGNS + MOST_SIGNS / 2;

    private final Items text;
    private final Items row;
    private final Items strip;
    private final Packer packer;
    private final Reader reader;

    public LineCodes() {
        text = new Items(MOST_SIGNS);
        row = new Items(MOST_SYMBOLS);
        strip = new Items(MOST_WIDTHS);
        packer = new Packer(text, row);
        reader = new Reader(strip);
    }

    public int write(int n, long signs) throws IllegalArgumentException {
        refuseByteCount(n);
        for (int i = 0; i < n; i++) {
            if (byteOf(signs, i) > Sets.MARK) {
                throw new IllegalArgumentException("a sign is above 128");
            }
        }
        return addBytes(text, n, signs);
    }

    public int wipe() {
        return text.empty();
    }

    public int pack() {
        packer.makeRow();
        return row.count();
    }

    public int symbol(int i) {
        return row.at(i);
    }

    public int bars(int module) throws IllegalArgumentException, IllegalStateException {
        refuseModule(module);
        if (row.count() == 0) {
            throw new IllegalStateException("there is no row");
        }
        strip.empty();
        for (int i = 0; i < row.count(); i++) {
            addWidths(Widths.ofSymbol(row.at(i)), module);
        }
        return strip.count();
    }

    public int checkFigure(long twelve) throws IllegalArgumentException {
        refuseTwelve(twelve);
        return Figures.checkOf(twelve);
    }

    public int thirteen(long twelve, int module) throws IllegalArgumentException {
        refuseTwelve(twelve);
        refuseModule(module);
        strip.empty();
        int turns = Widths.turnsOf(Figures.figureOf(twelve, 0));
        addWidths(Widths.SIDE, module);
        for (int i = 1; i <= Figures.HALF; i++) {
            int widths = Widths.ofFigure(Figures.figureOf(twelve, i));
            boolean turned = (turns >> (Figures.HALF - i) & 1) == 1;
            addWidths(turned ? Widths.turned(widths) : widths, module);
        }
        addWidths(Widths.MIDDLE, module);
        for (int i = Figures.HALF + 1; i < Figures.TWELVE; i++) {
            addWidths(Widths.ofFigure(Figures.figureOf(twelve, i)), module);
        }
        addWidths(Widths.ofFigure(Figures.checkOf(twelve)), module);
        addWidths(Widths.SIDE, module);
        return strip.count();
    }

    public int put(int n, long widths) throws IllegalArgumentException {
        refuseByteCount(n);
        for (int i = 0; i < n; i++) {
            if (byteOf(widths, i) == 0) {
                throw new IllegalArgumentException("a width is 0");
            }
        }
        return addBytes(strip, n, widths);
    }

    public int clear() {
        return strip.empty();
    }

    public int width(int i) {
        return strip.at(i);
    }

    public int spoil(int i, int width) throws IndexOutOfBoundsException, IllegalArgumentException {
        if (i < 0 || i >= strip.count()) {
            throw new IndexOutOfBoundsException("there is no width i");
        }
        if (width < 1 || width > MOST_WIDTH) {
            throw new IllegalArgumentException("width is not 1 .. 2000");
        }
        return strip.replace(i, width);
    }

    public int turn() {
        strip.reverse();
        return strip.count();
    }

    public int read() {
        boolean readable = reader.isReadable(false);
        if (!readable) {
            strip.reverse();
            readable = reader.isReadable(true);
            strip.reverse();
        }
        return readable ? reader.toldCount() : NONE;
    }

    public int sign(int i) {
        return reader.toldAt(i);
    }

    public boolean backwards() {
        return reader.isFromBack();
    }

    private static void refuseByteCount(int n) {
        if (n < 1 || n > MOST_BYTES) {
            throw new IllegalArgumentException("n is not 1 .. 8");
        }
    }

    private static void refuseModule(int module) {
        if (module < 1 || module > MOST_MODULE) {
            throw new IllegalArgumentException("module is not 1 .. 50");
        }
    }

    private static void refuseTwelve(long twelve) {
        if (twelve < 0 || twelve > MOST_TWELVE) {
            throw new IllegalArgumentException("twelve is not 0 .. 999999999999");
        }
    }

    private static int byteOf(long bytes, int i) {
        return (int) (bytes >>> 8 * i & 255);
    }

    private static int addBytes(Items items, int n, long bytes) {
        if (!items.hasRoomFor(n)) {
            return NONE;
        }
        for (int i = 0; i < n; i++) {
            items.add(byteOf(bytes, i));
        }
        return items.count();
    }

    private void addWidths(int widths, int module) {
        for (int unit = Widths.HIGHEST_UNIT; unit > 0; unit /= 10) {
            if (widths >= unit) {
                strip.add(widths / unit % 10 * module);
            }
        }
    }

    /** A row of numbers with a limit. It alone touches its array, so every index is tested here. */
    private static final class Items {
        private final int[] items;
        private int count;

        Items(int most) {
            items = new int[Math.max(most, 0)];
            count = 0;
        }

        int count() {
            return count;
        }

        boolean hasRoomFor(int more) {
            return more <= items.length - count;
        }

        int at(int i) {
            return i >= 0 && i < count && i < items.length ? items[i] : NONE;
        }

        boolean add(int item) {
            if (count < 0 || count >= items.length) {
                return false;
            }
            items[count] = item;
            count++;
            return true;
        }

        int replace(int i, int item) {
            if (i < 0 || i >= count || i >= items.length) {
                return NONE;
            }
            int old = items[i];
            items[i] = item;
            return old;
        }

        int empty() {
            int old = count;
            count = 0;
            return old;
        }

        void reverse() {
            for (int i = 0; i < count / 2; i++) {
                replace(i, replace(count - 1 - i, at(i)));
            }
        }
    }

    /** What symbols tell, by the set. */
    private static final class Sets {
        static final int A = 0;
        static final int B = 1;
        static final int C = 2;
        static final int COUNT = 3;

        static final int MARK = 128;
        static final int ZERO = 48;

        static final int LAST_OF_SIGN = 95;
        static final int LAST_OF_PAIR = 99;
        static final int SHIFT = 98;
        static final int TELLS_MARK = 102;
        static final int FIRST_OF_A = 103;
        static final int LAST = 106;
        static final int CHECK_MODULUS = 103;

        private static final int SWITCH_TO_A = 101;

        static boolean isFirst(int symbol) {
            return symbol >= FIRST_OF_A && symbol < FIRST_OF_A + COUNT;
        }

        static int firstOf(int set) {
            return FIRST_OF_A + set;
        }

        /** The symbols that change the set stand in the order C, B, A, against that of the first ones. */
        static int switchTo(int set) {
            return SWITCH_TO_A - set;
        }

        /** The set after a symbol that changes it; NONE for one that does not stand there so. */
        static int setAfter(int set, int symbol) {
            int next = SWITCH_TO_A - symbol;
            return next >= A && next < COUNT && next != set ? next : NONE;
        }

        static int otherOfAB(int set) {
            return set == A ? B : A;
        }

        /** The symbol that tells a sign in A or B; NONE when none does. */
        static int symbolOf(int set, int sign) {
            if (sign < 0 || sign >= MARK) {
                return NONE;
            }
            if (sign >= 32) {
                return set == B || sign <= 95 ? sign - 32 : NONE;
            }
            return set == A ? sign + 64 : NONE;
        }

        /** The sign that one of the symbols 0 .. 95 tells in A or B. */
        static int signOf(int set, int symbol) {
            return set == A && symbol > 63 ? symbol - 64 : symbol + 32;
        }

        /** The symbol that tells two signs in C; NONE when they are no figures. */
        static int pairOf(int tens, int ones) {
            return isFigure(tens) && isFigure(ones) ? 10 * (tens - ZERO) + ones - ZERO : NONE;
        }

        private static boolean isFigure(int sign) {
            return sign >= ZERO && sign <= ZERO + 9;
        }
    }

    /** The widths of symbols and figures, in modules, written as numbers figure by figure. */
    private static final class Widths {
        static final int HIGHEST_UNIT = 1000000;
        static final int WIDEST = 4;

        static final int SYMBOL_SIZE = 6;
        static final int SYMBOL_MODULES = 11;
        static final int LAST_SIZE = 7;
        static final int LAST_MODULES = 13;
        static final int LAST = 2331112;

        static final int FIGURE_SIZE = 4;
        static final int FIGURE_MODULES = 7;
        static final int SIDE = 111;
        static final int SIDE_SIZE = 3;
        static final int MIDDLE = 11111;
        static final int MIDDLE_SIZE = 5;

        private static final int[] SYMBOLS = {
            212222, 222122, 222221, 121223, 121322, 131222, 122213, 122312, 132212, 221213, 221312, 231212,
            112232, 122132, 122231, 113222, 123122, 123221, 223211, 221132, 221231, 213212, 223112, 312131,
            311222, 321122, 321221, 312212, 322112, 322211, 212123, 212321, 232121, 111323, 131123, 131321,
            112313, 132113, 132311, 211313, 231113, 231311, 112133, 112331, 132131, 113123, 113321, 133121,
            313121, 211331, 231131, 213113, 213311, 213131, 311123, 311321, 331121, 312113, 312311, 332111,
            314111, 221411, 431111, 111224, 111422, 121124, 121421, 141122, 141221, 112214, 112412, 122114,
            122411, 142112, 142211, 241211, 221114, 413111, 241112, 134111, 111242, 121142, 121241, 114212,
            124112, 124211, 411212, 421112, 421211, 212141, 214121, 412121, 111143, 111341, 131141, 114113,
            114311, 411113, 411311, 113141, 114131, 311141, 411131, 211412, 211214, 211232
        };

        private static final int[] FIGURES = {3211, 2221, 2122, 1411, 1132, 1231, 1114, 1312, 1213, 3112};

        /** By the first figure, the second figure's bit the highest of six. */
        private static final int[] TURNS = {
            0b000000, 0b001011, 0b001101, 0b001110, 0b010011, 0b011001, 0b011100, 0b010101, 0b010110, 0b011010
        };

        static int ofSymbol(int symbol) {
            return symbol == Sets.LAST ? LAST : entry(SYMBOLS, symbol);
        }

        static int ofFigure(int figure) {
            return entry(FIGURES, figure);
        }

        static int turnsOf(int firstFigure) {
            return entry(TURNS, firstFigure);
        }

        static int symbolWith(int widths) {
            return placeOf(SYMBOLS, widths);
        }

        static int figureWith(int widths) {
            return placeOf(FIGURES, widths);
        }

        static int firstFigureWith(int turns) {
            return placeOf(TURNS, turns);
        }

        /** The four widths of a figure the other way round. */
        static int turned(int widths) {
            return widths % 10 * 1000 + widths / 10 % 10 * 100 + widths / 100 % 10 * 10 + widths / 1000 % 10;
        }

        private static int entry(int[] table, int i) {
            return i >= 0 && i < table.length ? table[i] : 0;
        }

        private static int placeOf(int[] table, int entry) {
            for (int i = 0; i < table.length; i++) {
                if (table[i] == entry) {
                    return i;
                }
            }
            return NONE;
        }
    }

    /** Numbers of thirteen figures, their places counted from 0. */
    private static final class Figures {
        static final int TWELVE = 12;
        static final int THIRTEEN = 13;
        static final int HALF = 6;

        static int figureOf(long twelve, int place) {
            long rest = twelve;
            for (int i = TWELVE - 1; i > place; i--) {
                rest /= 10;
            }
            return (int) (rest % 10);
        }

        static int weightOf(int place) {
            return place % 2 == 0 ? 1 : 3;
        }

        static int checkOf(long twelve) {
            int sum = 0;
            for (int i = 0; i < TWELVE; i++) {
                sum += weightOf(i) * figureOf(twelve, i);
            }
            return (10 - sum % 10) % 10;
        }
    }

    /** Finds the row of a text: from its end on what the rest costs in each set, then forward the row. */
    private static final class Packer {
        private static final int FAR = 1000000;

        private final Items text;
        private final Items row;
        private final int[] costs;

        Packer(Items text, Items row) {
            this.text = text;
            this.row = row;
            costs = new int[Sets.COUNT * (MOST_SIGNS + 1)];
        }

        void makeRow() {
            for (int place = text.count(); place >= 0; place--) {
                fillCosts(place);
            }
            row.empty();
            addSymbols();
            row.add(checkSymbol());
            row.add(Sets.LAST);
        }

        private void fillCosts(int place) {
            int least = FAR;
            for (int set = Sets.A; set < Sets.COUNT; set++) {
                int cost = place == text.count() ? 0 : costOfTelling(place, set);
                setCost(place, set, cost);
                least = Math.min(least, cost);
            }
            // One switch reaches each set from each other one, so two in a row are never worth it.
            for (int set = Sets.A; set < Sets.COUNT; set++) {
                setCost(place, set, Math.min(cost(place, set), least + 1));
            }
        }

        /** The symbols for the rest of the text if the next one does not change the set. */
        private int costOfTelling(int place, int set) {
            int sign = text.at(place);
            if (sign == Sets.MARK) {
                return 1 + cost(place + 1, set);
            }
            if (set == Sets.C) {
                boolean pair = Sets.pairOf(sign, text.at(place + 1)) != NONE;
                return pair ? 1 + cost(place + 2, set) : FAR;
            }
            boolean direct = Sets.symbolOf(set, sign) != NONE;
            return (direct ? 1 : 2) + cost(place + 1, set);
        }

        private void addSymbols() {
            int set = cheapestFirstSet();
            row.add(Sets.firstOf(set));
            int place = 0;
            for (int step = 0; step < MOST_SYMBOLS && place < text.count(); step++) {
                int next = nextSet(place, set);
                if (next == set) {
                    place += addTold(place, set);
                } else {
                    row.add(Sets.switchTo(next));
                    set = next;
                }
            }
        }

        private int cheapestFirstSet() {
            int best = Sets.A;
            for (int set = Sets.B; set < Sets.COUNT; set++) {
                if (cost(0, set) < cost(0, best)) {
                    best = set;
                }
            }
            return best;
        }

        /**
         * The set to be in for what comes at this place. The symbols that change the set are
         * greater than all that tell something but the mark's: where both ways cost the same,
         * a change comes behind other signs and ahead of a mark.
         */
        private int nextSet(int place, int set) {
            boolean mark = text.at(place) == Sets.MARK;
            if (!mark && costOfTelling(place, set) == cost(place, set)) {
                return set;
            }
            // From C down to A the symbols that change the set grow.
            for (int next = Sets.C; next >= Sets.A; next--) {
                if (next != set && 1 + cost(place, next) == cost(place, set)) {
                    return next;
                }
            }
            return set;
        }

        /** Adds what tells the next sign or signs in this set; answers how many these are. */
        private int addTold(int place, int set) {
            int sign = text.at(place);
            if (sign == Sets.MARK) {
                row.add(Sets.TELLS_MARK);
                return 1;
            }
            if (set == Sets.C) {
                row.add(Sets.pairOf(sign, text.at(place + 1)));
                return 2;
            }
            int symbol = Sets.symbolOf(set, sign);
            if (symbol == NONE) {
                row.add(Sets.SHIFT);
                symbol = Sets.symbolOf(Sets.otherOfAB(set), sign);
            }
            row.add(symbol);
            return 1;
        }

        private int checkSymbol() {
            int sum = row.at(0);
            for (int i = 1; i < row.count(); i++) {
                sum += i * row.at(i);
            }
            return sum % Sets.CHECK_MODULUS;
        }

        private int cost(int place, int set) {
            int i = Sets.COUNT * place + set;
            return i >= 0 && i < costs.length ? costs[i] : FAR;
        }

        private void setCost(int place, int set, int cost) {
            int i = Sets.COUNT * place + set;
            if (i >= 0 && i < costs.length) {
                costs[i] = cost;
            }
        }
    }

    /** Reads a strip and keeps what it told. */
    private static final class Reader {
        /** A strip has room for 130 symbols between the first one and the check symbol, in C two signs each. */
        private static final int MOST_TOLD = 260;
        private static final int THIRTEEN_WIDTHS = 59;
        private static final int THIRTEEN_MODULES = 95;
        private static final int LEFT_HALF = 3;
        private static final int MIDDLE = 27;
        private static final int RIGHT_HALF = 32;
        private static final int RIGHT_SIDE = 56;

        private final Items strip;
        private final Items told;
        private boolean fromBack;
        private int set;
        private boolean shifted;

        Reader(Items strip) {
            this.strip = strip;
            told = new Items(MOST_TOLD);
            fromBack = false;
            set = Sets.A;
            shifted = false;
        }

        int toldCount() {
            return told.count();
        }

        int toldAt(int i) {
            return told.at(i);
        }

        boolean isFromBack() {
            return fromBack;
        }

        /** Reads the strip as it lies, turned for this or not; when it is nothing so, nothing was read. */
        boolean isReadable(boolean turned) {
            told.empty();
            boolean readable = strip.count() == THIRTEEN_WIDTHS ? isThirteen() : isRow();
            if (!readable) {
                told.empty();
            }
            fromBack = readable && turned;
            return readable;
        }

        private boolean isThirteen() {
            if (!areSidesAndMiddleRight() || !isLeftHalf() || !isRightHalf()) {
                return false;
            }
            int sum = 0;
            for (int i = 0; i < Figures.THIRTEEN; i++) {
                sum += Figures.weightOf(i) * (told.at(i) - Sets.ZERO);
            }
            return sum % 10 == 0;
        }

        private boolean areSidesAndMiddleRight() {
            int sum = sumOf(0, THIRTEEN_WIDTHS);
            return countsOf(0, Widths.SIDE_SIZE, THIRTEEN_MODULES, sum) == Widths.SIDE
                && countsOf(MIDDLE, Widths.MIDDLE_SIZE, THIRTEEN_MODULES, sum) == Widths.MIDDLE
                && countsOf(RIGHT_SIDE, Widths.SIDE_SIZE, THIRTEEN_MODULES, sum) == Widths.SIDE;
        }

        private boolean isLeftHalf() {
            // The first figure is known only when the turns of the six others are: its place is kept.
            told.add(NONE);
            int turns = 0;
            for (int i = 0; i < Figures.HALF; i++) {
                int widths = figureCountsAt(LEFT_HALF + Widths.FIGURE_SIZE * i);
                int figure = Widths.figureWith(widths);
                boolean turned = figure == NONE;
                if (turned) {
                    figure = Widths.figureWith(Widths.turned(widths));
                }
                if (figure == NONE) {
                    return false;
                }
                turns = 2 * turns + (turned ? 1 : 0);
                told.add(Sets.ZERO + figure);
            }
            int first = Widths.firstFigureWith(turns);
            told.replace(0, Sets.ZERO + first);
            return first != NONE;
        }

        private boolean isRightHalf() {
            for (int i = 0; i < Figures.HALF; i++) {
                int figure = Widths.figureWith(figureCountsAt(RIGHT_HALF + Widths.FIGURE_SIZE * i));
                if (figure == NONE) {
                    return false;
                }
                told.add(Sets.ZERO + figure);
            }
            return true;
        }

        private boolean isRow() {
            int lastFrom = strip.count() - Widths.LAST_SIZE;
            int before = lastFrom / Widths.SYMBOL_SIZE;
            if (before < 2 || lastFrom != before * Widths.SYMBOL_SIZE || !isLastAt(lastFrom)) {
                return false;
            }
            int first = symbolAt(0);
            if (!Sets.isFirst(first)) {
                return false;
            }
            set = first - Sets.FIRST_OF_A;
            shifted = false;
            int sum = first;
            for (int i = 1; i < before - 1; i++) {
                int symbol = symbolAt(Widths.SYMBOL_SIZE * i);
                if (symbol == NONE || !isTold(symbol)) {
                    return false;
                }
                sum += i * symbol;
            }
            // The check symbol tells nothing, so a shift can't wait for it.
            return !shifted && symbolAt(lastFrom - Widths.SYMBOL_SIZE) == sum % Sets.CHECK_MODULUS;
        }

        /** Tells what a symbol tells, or changes the set by it; false when it can't stand here. */
        private boolean isTold(int symbol) {
            if (shifted) {
                shifted = false;
                return symbol <= Sets.LAST_OF_SIGN && told.add(Sets.signOf(Sets.otherOfAB(set), symbol));
            }
            if (symbol == Sets.TELLS_MARK) {
                return told.add(Sets.MARK);
            }
            if (set == Sets.C && symbol <= Sets.LAST_OF_PAIR) {
                return told.add(Sets.ZERO + symbol / 10) && told.add(Sets.ZERO + symbol % 10);
            }
            if (symbol <= Sets.LAST_OF_SIGN) {
                return told.add(Sets.signOf(set, symbol));
            }
            if (symbol == Sets.SHIFT) {
                shifted = true;
                return true;
            }
            return isSwitched(symbol);
        }

        private boolean isSwitched(int symbol) {
            int next = Sets.setAfter(set, symbol);
            if (next == NONE) {
                return false;
            }
            set = next;
            return true;
        }

        private int figureCountsAt(int from) {
            int sum = sumOf(from, Widths.FIGURE_SIZE);
            return countsOf(from, Widths.FIGURE_SIZE, Widths.FIGURE_MODULES, sum);
        }

        private int symbolAt(int from) {
            int sum = sumOf(from, Widths.SYMBOL_SIZE);
            return Widths.symbolWith(countsOf(from, Widths.SYMBOL_SIZE, Widths.SYMBOL_MODULES, sum));
        }

        private boolean isLastAt(int from) {
            int sum = sumOf(from, Widths.LAST_SIZE);
            return countsOf(from, Widths.LAST_SIZE, Widths.LAST_MODULES, sum) == Widths.LAST;
        }

        private int sumOf(int from, int size) {
            int sum = 0;
            for (int i = 0; i < size; i++) {
                sum += strip.at(from + i);
            }
            return sum;
        }

        /** What some widths count as, figure by figure; 0 when one counts as what no width of a code is. */
        private int countsOf(int from, int size, int modules, int sum) {
            if (sum < 1) {
                return 0;
            }
            int counts = 0;
            for (int i = 0; i < size; i++) {
                // Half a sum more before the division brings the nearest, of two such the greater one.
                int count = (2 * modules * strip.at(from + i) + sum) / (2 * sum);
                if (count < 1 || count > Widths.WIDEST) {
                    return 0;
                }
                counts = 10 * counts + count;
            }
            return counts;
        }
    }
}
