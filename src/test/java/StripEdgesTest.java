import java.util.stream.IntStream;

/** The edges that promises 9 to 13 name, a sentence each. */
public final class StripEdgesTest {
    private static final Checks CHECKS = new Checks();
    private static final long WIDTHS = 0x0807060504030201L;

    public static void main(String[] args) {
        countsFromOneToEight();
        widthsFromOne();
        onlyTheseAreLookedAt();
        upToEightHundred();
        whatDoesNotFitWholeIsNotPut();
        wrongArgumentsComeAheadOfTheLimit();
        putBehindCodes();
        clearing();
        widthsOfTheStrip();
        spoiledPlaces();
        spoiledWidths();
        spoilingAtBothFaults();
        whatItWas();
        turning();
        CHECKS.end();
    }

    private static void countsFromOneToEight() {
        CHECKS.sentence("IllegalArgumentException: n is not 1 .. 8");
        for (int n = 1; n <= 8; n++) {
            LineCodes x = new LineCodes();
            CHECKS.due("put(" + n + ", ..)", x.put(n, WIDTHS), n);
            CHECKS.due("the last of them", x.width(n - 1), n);
            CHECKS.due("none behind", x.width(n), -1);
        }
        // 257 and 1 << 8 would be 1 and 0 if only their lowest byte were looked at.
        for (int n : new int[] {0, 9, -1, -8, 16, 64, 257, 1 << 8, Integer.MIN_VALUE, Integer.MAX_VALUE}) {
            LineCodes x = new LineCodes();
            CHECKS.dueThrows("put(" + n + ", ..)", IllegalArgumentException.class, () -> x.put(n, WIDTHS));
            CHECKS.due("the strip then", x.clear(), 0);
        }
    }

    private static void widthsFromOne() {
        CHECKS.sentence("or one of these is 0");
        for (int place = 0; place < 8; place++) {
            for (long width = 0; width <= 255; width++) {
                int n = place + 1;
                long widths = WIDTHS & ~(255L << 8 * place) | width << 8 * place;
                LineCodes x = new LineCodes();
                if (width == 0) {
                    CHECKS.dueThrows("put of 0 at " + place, IllegalArgumentException.class, () -> x.put(n, widths));
                    CHECKS.due("the strip then", x.clear(), 0);
                } else {
                    CHECKS.due("put of " + width + " at " + place, x.put(n, widths), n);
                    CHECKS.due("the width", x.width(place), (int) width);
                }
            }
        }
    }

    private static void onlyTheseAreLookedAt() {
        CHECKS.sentence("The n lowest bytes of a long, the lowest first, come behind the strip as widths.");
        for (int n = 1; n < 8; n++) {
            LineCodes x = Codes.withStrip(99);
            CHECKS.due("put with 0 above", x.put(n, WIDTHS & ~(-1L << 8 * n)), n + 1);
            CHECKS.due("what was there", x.width(0), 99);
            CHECKS.due("the lowest", x.width(1), 1);
            CHECKS.due("the highest", x.width(n), n);
            CHECKS.due("none behind", x.width(n + 1), -1);
        }
    }

    private static void upToEightHundred() {
        CHECKS.sentence("NONE when there would be more than 800");
        for (int n = 1; n <= 8; n++) {
            CHECKS.due("put up to 799", Codes.withStrip(Codes.ones(799 - n)).put(n, WIDTHS), 799);
            LineCodes x = Codes.withStrip(Codes.ones(800 - n));
            CHECKS.due("put up to 800", x.put(n, WIDTHS), 800);
            CHECKS.due("the last width", x.width(799), n);
            CHECKS.due("none behind", x.width(800), -1);
            CHECKS.due("put up to 801", Codes.withStrip(Codes.ones(801 - n)).put(n, WIDTHS), -1);
            CHECKS.due("put behind 800", Codes.withStrip(Codes.ones(800)).put(n, WIDTHS), -1);
        }
    }

    private static void whatDoesNotFitWholeIsNotPut() {
        CHECKS.sentence("a call that .. answers NONE, changes nothing");
        for (int n = 2; n <= 8; n++) {
            LineCodes x = Codes.withStrip(Codes.ones(801 - n));
            x.put(n, 0x0909090909090909L);
            CHECKS.due("none behind after a refused put", x.width(801 - n), -1);
            CHECKS.due("turn() then", x.turn(), 801 - n);
            CHECKS.due("a put that fits after it", x.put(n - 1, WIDTHS), 800);
            CHECKS.due("its first width", x.width(801 - n), 1);
            CHECKS.due("clear()", x.clear(), 800);
        }
    }

    private static void wrongArgumentsComeAheadOfTheLimit() {
        CHECKS.sentence("and ahead of what they answer NONE for");
        LineCodes full = Codes.withStrip(Codes.ones(800));
        CHECKS.dueThrows("put(0, ..) behind 800", IllegalArgumentException.class, () -> full.put(0, WIDTHS));
        CHECKS.dueThrows("put(9, ..) behind 800", IllegalArgumentException.class, () -> full.put(9, WIDTHS));
        CHECKS.dueThrows("put(1, 0) behind 800", IllegalArgumentException.class, () -> full.put(1, 0));
        CHECKS.due("put(1, 1) behind 800", full.put(1, 1), -1);
        LineCodes nearly = Codes.withStrip(Codes.ones(799));
        CHECKS.dueThrows("a second width that is wrong, and one too many", IllegalArgumentException.class,
            () -> nearly.put(2, 5));
        CHECKS.due("a second width that is one too many", nearly.put(2, 5 << 8 | 5), -1);
        CHECKS.due("its widths then", nearly.clear(), 799);
    }

    private static void putBehindCodes() {
        CHECKS.sentence("come behind the strip as widths");
        LineCodes x = new LineCodes();
        x.thirteen(0, 1);
        CHECKS.due("put behind thirteen figures", x.put(1, 200), 60);
        CHECKS.due("the width", x.width(59), 200);
        x.pack();
        x.bars(1);
        CHECKS.due("put behind a row", x.put(2, WIDTHS), 21);
        CHECKS.due("the widths", x.width(19) + 10 * x.width(20), 21);
    }

    private static void clearing() {
        CHECKS.sentence("The strip is empty then. Answers how many widths it had.");
        for (int n : new int[] {0, 1, 59, 799, 800}) {
            LineCodes x = Codes.withStrip(Codes.ones(n));
            CHECKS.due("clear() of " + n, x.clear(), n);
            CHECKS.due("clear() again", x.clear(), 0);
            CHECKS.due("width(0) then", x.width(0), -1);
            CHECKS.dueThrows("spoil(0, 1) then", IndexOutOfBoundsException.class, () -> x.spoil(0, 1));
            CHECKS.due("turn() then", x.turn(), 0);
            CHECKS.due("read() then", x.read(), -1);
            CHECKS.due("put then", x.put(8, WIDTHS), 8);
        }
    }

    private static void widthsOfTheStrip() {
        CHECKS.sentence("Width i of the strip; NONE when there is none.");
        for (int n : new int[] {1, 2, 59, 799, 800}) {
            LineCodes x = Codes.withStrip(Codes.ones(n));
            x.spoil(0, 7);
            x.spoil(n - 1, 2000);
            CHECKS.due("the last of " + n, x.width(n - 1), 2000);
            CHECKS.due("the first of " + n, x.width(0), n == 1 ? 2000 : 7);
            for (int i : new int[] {n, n + 1, -1, 800, 1 << 16, Integer.MIN_VALUE, Integer.MAX_VALUE}) {
                CHECKS.due("width(" + i + ") of " + n, x.width(i), -1);
            }
        }
        LineCodes shorter = Codes.withStrip(Codes.ones(100));
        shorter.thirteen(0, 1);
        CHECKS.due("the last of the new strip", shorter.width(58), 1);
        CHECKS.due("what stood behind it", shorter.width(59), -1);
        CHECKS.due("the last that stood", shorter.width(99), -1);
    }

    private static void spoiledPlaces() {
        CHECKS.sentence("IndexOutOfBoundsException: there is no width i.");
        for (int n : new int[] {1, 2, 59, 800}) {
            LineCodes x = Codes.withStrip(Codes.ones(n));
            CHECKS.due("spoil of the first of " + n, x.spoil(0, 5), 1);
            CHECKS.due("spoil of the last of " + n, x.spoil(n - 1, 6), n == 1 ? 5 : 1);
            CHECKS.due("the last", x.width(n - 1), 6);
            for (int i : new int[] {-1, n, n + 1, 800, 1 << 16, Integer.MIN_VALUE, Integer.MAX_VALUE}) {
                CHECKS.dueThrows("spoil(" + i + ", 1) of " + n, IndexOutOfBoundsException.class, () -> x.spoil(i, 1));
            }
            CHECKS.due("widths then", x.clear(), n);
        }
        LineCodes shorter = Codes.withStrip(Codes.ones(100));
        shorter.thirteen(0, 1);
        CHECKS.dueThrows("spoil of what stood behind", IndexOutOfBoundsException.class, () -> shorter.spoil(59, 1));
    }

    private static void spoiledWidths() {
        CHECKS.sentence("IllegalArgumentException: width is not 1 .. 2000.");
        LineCodes x = Codes.withStrip(9, 9, 9);
        CHECKS.due("spoil(1, 1)", x.spoil(1, 1), 9);
        CHECKS.due("spoil(1, 2)", x.spoil(1, 2), 1);
        CHECKS.due("spoil(1, 255)", x.spoil(1, 255), 2);
        CHECKS.due("spoil(1, 256)", x.spoil(1, 256), 255);
        CHECKS.due("spoil(1, 1999)", x.spoil(1, 1999), 256);
        CHECKS.due("spoil(1, 2000)", x.spoil(1, 2000), 1999);
        for (int width : new int[] {0, 2001, -1, -2000, 1 << 16 | 1, Integer.MIN_VALUE, Integer.MAX_VALUE}) {
            CHECKS.dueThrows("spoil(1, " + width + ")", IllegalArgumentException.class, () -> x.spoil(1, width));
            CHECKS.due("the strip then", Codes.strip(x), Codes.list(9, 2000, 9));
        }
    }

    private static void spoilingAtBothFaults() {
        CHECKS.sentence("the one named first when several would do");
        for (LineCodes x : new LineCodes[] {new LineCodes(), Codes.withStrip(9), Codes.withStrip(Codes.ones(800))}) {
            for (int i : new int[] {-1, 800, Integer.MIN_VALUE, Integer.MAX_VALUE}) {
                for (int width : new int[] {0, 2001, -1, Integer.MIN_VALUE, Integer.MAX_VALUE}) {
                    CHECKS.dueThrows("spoil(" + i + ", " + width + ")", IndexOutOfBoundsException.class,
                        () -> x.spoil(i, width));
                }
            }
        }
        CHECKS.dueThrows("spoil(0, 0) of none", IndexOutOfBoundsException.class, () -> new LineCodes().spoil(0, 0));
    }

    private static void whatItWas() {
        CHECKS.sentence("A width of the strip becomes another one. Answers what it was.");
        LineCodes x = Codes.withStrip(3, 4, 5);
        CHECKS.due("spoil(1, 4), the same", x.spoil(1, 4), 4);
        CHECKS.due("spoil(1, 6)", x.spoil(1, 6), 4);
        CHECKS.due("spoil(1, 7)", x.spoil(1, 7), 6);
        CHECKS.due("the strip", Codes.strip(x), Codes.list(3, 7, 5));
    }

    private static void turning() {
        CHECKS.sentence("The strip is the other way round then. Answers how many widths it has.");
        for (int n : new int[] {0, 1, 2, 3, 4, 5, 58, 59, 799, 800}) {
            int[] widths = IntStream.rangeClosed(1, n).map(i -> i % 255 + 1).toArray();
            LineCodes x = Codes.withStrip(widths);
            CHECKS.due("turn() of " + n, x.turn(), n);
            CHECKS.due("turned", Codes.strip(x), Codes.list(Codes.turned(widths)));
            LineCodes twice = Codes.withStrip(widths);
            twice.turn();
            CHECKS.due("turn() again", twice.turn(), n);
            CHECKS.due("turned twice", Codes.strip(twice), Codes.list(widths));
        }
    }
}
