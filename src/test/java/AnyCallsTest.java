import java.util.Random;
import java.util.function.Supplier;

/** All promises: runs of any calls, up to 512 on an object, answer as the second reckoning does. */
public final class AnyCallsTest {
    private static final Checks CHECKS = new Checks();
    private static final int[] EDGES = {
        Integer.MIN_VALUE, -1, 0, 1, 8, 9, 50, 51, 58, 59, 64, 128, 799, 800, 2000, 2001, Integer.MAX_VALUE
    };
    private static final String SIGNS = "0123456789012345678901234567890123456789AZaz\u0000\u0001\u001f _`\u007f\u0080";

    private static final int MOST_CALLS = 512;
    private static final int MOST_AT_ONCE = 4;

    private final Random random;
    private final LineCodes x = new LineCodes();
    private final Reckoning y = new Reckoning();
    private int calls = 0;

    private AnyCallsTest(long seed) {
        random = new Random(seed);
    }

    public static void main(String[] args) {
        for (int seed = 0; seed < 80; seed++) {
            new AnyCallsTest(seed).run();
        }
        CHECKS.end();
    }

    private void run() {
        while (calls <= MOST_CALLS - MOST_AT_ONCE) {
            anyCall(random.nextInt(40));
        }
    }

    private void anyCall(int kind) {
        if (kind < 6) {
            int n = number(1, 8);
            long signs = signs();
            due("write(" + n + ", " + signs + ")", () -> x.write(n, signs), () -> y.write(n, signs));
        } else if (kind < 7) {
            due("wipe()", () -> x.wipe(), () -> y.wipe());
        } else if (kind < 10) {
            due("pack()", () -> x.pack(), () -> y.pack());
        } else if (kind < 13) {
            int i = number(0, 50);
            due("symbol(" + i + ")", () -> x.symbol(i), () -> y.symbol(i));
        } else if (kind < 16) {
            int module = number(1, 50);
            due("bars(" + module + ")", () -> x.bars(module), () -> y.bars(module));
        } else if (kind < 20) {
            thirteenOrCheck();
        } else if (kind < 22) {
            int n = number(1, 8);
            long widths = random.nextInt(9) == 0 ? random.nextLong() : 0x0302010102030101L;
            due("put(" + n + ", " + widths + ")", () -> x.put(n, widths), () -> y.put(n, widths));
        } else if (kind < 23) {
            due("clear()", () -> x.clear(), () -> y.clear());
        } else if (kind < 26) {
            int i = number(0, 300);
            due("width(" + i + ")", () -> x.width(i), () -> y.width(i));
        } else if (kind < 30) {
            spoil();
        } else if (kind < 32) {
            due("turn()", () -> x.turn(), () -> y.turn());
        } else {
            readAll();
        }
    }

    private void thirteenOrCheck() {
        long any = random.nextInt(9) == 0 ? random.nextLong() : (random.nextLong() >>> 1) % 1000000000000L;
        int module = number(1, 50);
        due("checkFigure(" + any + ")", () -> x.checkFigure(any), () -> y.checkFigure(any));
        due("thirteen(" + any + ", " + module + ")", () -> x.thirteen(any, module), () -> y.thirteen(any, module));
    }

    /** Mostly by a little, so that what is read stays near the edge between read and refused. */
    private void spoil() {
        int i = number(0, random.nextBoolean() ? 58 : 300);
        int old = y.width(i);
        int width = random.nextInt(5) == 0 || old < 0 ? number(1, 2000) : number(old - old / 3, old + old / 3);
        due("spoil(" + i + ", " + width + ")", () -> x.spoil(i, width), () -> y.spoil(i, width));
    }

    private void readAll() {
        due("read()", () -> x.read(), () -> y.read());
        due("backwards()", () -> x.backwards() ? 1 : 0, () -> y.backwards() ? 1 : 0);
        int i = number(0, 70);
        due("sign(" + i + ")", () -> x.sign(i), () -> y.sign(i));
        due("sign(0)", () -> x.sign(0), () -> y.sign(0));
    }

    private int number(int least, int most) {
        return random.nextInt(12) == 0 ? EDGES[random.nextInt(EDGES.length)] : least + random.nextInt(most - least + 1);
    }

    private long signs() {
        if (random.nextInt(30) == 0) {
            return random.nextLong();
        }
        long signs = 0;
        for (int i = 0; i < 8; i++) {
            signs = signs << 8 | SIGNS.charAt(random.nextInt(SIGNS.length()));
        }
        return signs;
    }

    private void due(String call, Supplier<Integer> program, Supplier<Integer> reckoning) {
        calls++;
        CHECKS.due(call, answer(program), answer(reckoning));
    }

    private static Object answer(Supplier<Integer> call) {
        try {
            return call.get();
        } catch (RuntimeException e) {
            return e.getClass();
        }
    }
}
