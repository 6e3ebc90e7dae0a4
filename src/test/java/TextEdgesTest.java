/** The edges that promises 1 to 3 name, a sentence each. */
public final class TextEdgesTest {
    private static final Checks CHECKS = new Checks();
    private static final long LETTERS = 0x4847464544434241L;

    public static void main(String[] args) {
        aNewObject();
        countsFromOneToEight();
        signsUpToTheMark();
        onlyTheseAreLookedAt();
        theLowestComesFirst();
        upToSixtyFour();
        whatDoesNotFitWholeIsNotWritten();
        wrongArgumentsComeAheadOfTheLimit();
        wiping();
        CHECKS.end();
    }

    private static void aNewObject() {
        CHECKS.sentence("An empty text");
        CHECKS.due("wipe()", new LineCodes().wipe(), 0);
        CHECKS.due("write(1, 65)", new LineCodes().write(1, 65), 1);
        CHECKS.due("pack()", new LineCodes().pack(), 3);
        CHECKS.sentence("no row");
        CHECKS.due("symbol(0)", new LineCodes().symbol(0), -1);
        CHECKS.dueThrows("bars(1)", IllegalStateException.class, () -> new LineCodes().bars(1));
        CHECKS.sentence("an empty strip");
        CHECKS.due("width(0)", new LineCodes().width(0), -1);
        CHECKS.due("clear()", new LineCodes().clear(), 0);
        CHECKS.due("turn()", new LineCodes().turn(), 0);
        CHECKS.due("put(1, 1)", new LineCodes().put(1, 1), 1);
        CHECKS.due("read()", new LineCodes().read(), -1);
        CHECKS.dueThrows("spoil(0, 1)", IndexOutOfBoundsException.class, () -> new LineCodes().spoil(0, 1));
        CHECKS.sentence("nothing was read");
        CHECKS.due("sign(0)", new LineCodes().sign(0), -1);
        CHECKS.due("backwards()", new LineCodes().backwards(), false);
    }

    private static void countsFromOneToEight() {
        CHECKS.sentence("IllegalArgumentException: n is not 1 .. 8");
        for (int n = 1; n <= 8; n++) {
            CHECKS.due("write(" + n + ", ..)", new LineCodes().write(n, LETTERS), n);
        }
        // 257 and 1 << 8 would be 1 and 0 if only their lowest byte were looked at.
        for (int n : new int[] {0, 9, -1, -8, 16, 64, 257, 1 << 8, Integer.MIN_VALUE, Integer.MAX_VALUE}) {
            CHECKS.dueThrows("write(" + n + ", ..)", IllegalArgumentException.class,
                () -> new LineCodes().write(n, LETTERS));
        }
    }

    private static void signsUpToTheMark() {
        CHECKS.sentence("or one of these is above 128");
        for (int place = 0; place < 8; place++) {
            for (long sign = 0; sign <= 255; sign++) {
                int n = place + 1;
                long signs = LETTERS & ~(255L << 8 * place) | sign << 8 * place;
                LineCodes x = new LineCodes();
                if (sign <= 128) {
                    CHECKS.due("write of " + sign + " at " + place, x.write(n, signs), n);
                } else {
                    CHECKS.dueThrows("write of " + sign + " at " + place, IllegalArgumentException.class,
                        () -> x.write(n, signs));
                }
            }
        }
    }

    private static void onlyTheseAreLookedAt() {
        CHECKS.sentence("The n lowest bytes of a long");
        for (int n = 1; n < 8; n++) {
            LineCodes x = new LineCodes();
            CHECKS.due("write with wrong bytes above", x.write(n, LETTERS | -1L << 8 * n), n);
            x.pack();
            CHECKS.due("the first sign's symbol", x.symbol(1), 33);
            CHECKS.due("the last sign's symbol", x.symbol(n), 32 + n);
            CHECKS.due("the end behind them", x.symbol(n + 2), 106);
        }
    }

    private static void theLowestComesFirst() {
        CHECKS.sentence("the lowest first, come behind the text as signs");
        LineCodes x = new LineCodes();
        x.write(8, LETTERS);
        x.write(2, 'X' | 'Y' << 8);
        x.pack();
        CHECKS.due("the row", Codes.row(x).subList(0, 11),
            Codes.list(103, 33, 34, 35, 36, 37, 38, 39, 40, 56, 57));
    }

    private static void upToSixtyFour() {
        CHECKS.sentence("NONE when there would be more than 64");
        for (int n = 1; n <= 8; n++) {
            CHECKS.due("write up to 64", Codes.withText(letters(64 - n)).write(n, LETTERS), 64);
            CHECKS.due("write up to 63", Codes.withText(letters(63 - n)).write(n, LETTERS), 63);
            CHECKS.due("write up to 65", Codes.withText(letters(65 - n)).write(n, LETTERS), -1);
            CHECKS.due("write behind 64", Codes.withText(letters(64)).write(n, LETTERS), -1);
        }
    }

    private static void whatDoesNotFitWholeIsNotWritten() {
        CHECKS.sentence("a call that .. answers NONE, changes nothing");
        for (int n = 2; n <= 8; n++) {
            LineCodes x = Codes.withText(letters(65 - n));
            x.write(n, LETTERS);
            CHECKS.due("pack() after a refused write", x.pack(), 65 - n + 3);
            CHECKS.due("a write that fits after it", x.write(n - 1, LETTERS), 64);
            CHECKS.due("the full text's signs", x.wipe(), 64);
        }
    }

    private static void wrongArgumentsComeAheadOfTheLimit() {
        CHECKS.sentence("and ahead of what they answer NONE for");
        LineCodes full = Codes.withText(letters(64));
        CHECKS.dueThrows("write(0, ..) behind 64", IllegalArgumentException.class, () -> full.write(0, LETTERS));
        CHECKS.dueThrows("write(9, ..) behind 64", IllegalArgumentException.class, () -> full.write(9, LETTERS));
        CHECKS.dueThrows("write(1, 129) behind 64", IllegalArgumentException.class, () -> full.write(1, 129));
        CHECKS.due("write(1, 128) behind 64", full.write(1, 128), -1);
        LineCodes nearly = Codes.withText(letters(63));
        CHECKS.dueThrows("a second sign that is wrong, and one too many", IllegalArgumentException.class,
            () -> nearly.write(2, 129 << 8 | 65));
        CHECKS.due("a second sign that is one too many", nearly.write(2, 128 << 8 | 65), -1);
        CHECKS.due("its signs then", nearly.wipe(), 63);
    }

    private static void wiping() {
        CHECKS.sentence("The text is empty then. Answers how many signs it had.");
        for (int n : new int[] {0, 1, 8, 9, 63, 64}) {
            LineCodes x = Codes.withText(letters(n));
            CHECKS.due("wipe() of " + n, x.wipe(), n);
            CHECKS.due("wipe() again", x.wipe(), 0);
            CHECKS.due("pack() then", x.pack(), 3);
            CHECKS.due("write then", x.write(8, LETTERS), 8);
        }
    }

    private static int[] letters(int count) {
        int[] letters = new int[count];
        for (int i = 0; i < count; i++) {
            letters[i] = 'A' + i % 26;
        }
        return letters;
    }
}
