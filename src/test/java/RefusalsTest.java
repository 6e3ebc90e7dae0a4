import java.util.ArrayList;
import java.util.LinkedHashMap;
import java.util.List;
import java.util.Map;
import java.util.function.Consumer;
import java.util.function.Function;

/**
 * "Methods throw what their comments name, the one named first when several would do, and ahead of what they answer
 * NONE for; a call that throws, or answers NONE, changes nothing (but for read())": in many states every refused call
 * is made on one of two objects that were filled alike, and all that can be seen of the two is the same then.
 */
public final class RefusalsTest {
    private static final Checks CHECKS = new Checks();
    private static final Class<?> ARGUMENT = IllegalArgumentException.class;
    private static final Class<?> STATE = IllegalStateException.class;
    private static final Class<?> INDEX = IndexOutOfBoundsException.class;
    private static final Object NONE = -1;
    private static final long BYTES = 0x4242424242424242L;
    private static final long MOST = 999999999999L;

    private record Call(String name, Object due, Function<LineCodes, Object> made) {
    }

    public static void main(String[] args) {
        for (Map.Entry<String, Consumer<LineCodes>> state : states().entrySet()) {
            for (Call call : refusedAlways()) {
                dueUnchanged(state.getKey(), state.getValue(), call);
            }
            for (Call call : refusedIn(state.getKey())) {
                dueUnchanged(state.getKey(), state.getValue(), call);
            }
            askingChangesNothing(state.getKey(), state.getValue());
            readChangesWhatWasReadAlone(state.getKey(), state.getValue());
        }
        CHECKS.end();
    }

    private static Map<String, Consumer<LineCodes>> states() {
        Map<String, Consumer<LineCodes>> states = new LinkedHashMap<>();
        states.put("new", x -> { });
        states.put("text", x -> Codes.fillText(x, 'a', 1, '2', 128));
        states.put("row", RefusalsTest::fillRow);
        states.put("row of another text", x -> {
            fillRow(x);
            Codes.fillText(x, 'x', 'y');
        });
        states.put("strip", x -> Codes.fillStrip(x, 3, 2000, 5));
        states.put("read", x -> {
            fillRow(x);
            x.bars(50);
            x.read();
        });
        states.put("read backwards", x -> {
            fillRow(x);
            x.thirteen(MOST, 1);
            x.turn();
            x.read();
        });
        states.put("read, then spoiled", x -> {
            fillRow(x);
            x.bars(2);
            x.turn();
            x.read();
            x.spoil(0, 2000);
        });
        states.put("full", x -> {
            Codes.fillText(x, longText(64));
            x.pack();
            x.bars(1);
            x.turn();
            x.read();
            Codes.fillStrip(x, Codes.ones(800));
        });
        states.put("nearly full", x -> {
            Codes.fillText(x, longText(63));
            x.pack();
            x.bars(1);
            x.read();
            Codes.fillStrip(x, Codes.ones(799));
        });
        return states;
    }

    private static void fillRow(LineCodes x) {
        Codes.fillText(x, '1', '2', '3', '4', 'a', 1, 128);
        x.pack();
    }

    private static int[] longText(int signs) {
        int[] text = new int[signs];
        for (int i = 0; i < signs; i++) {
            text[i] = i % 2 == 0 ? 'a' : 1;
        }
        return text;
    }

    /** What no state takes; with two faults at once the one that is named first is due. */
    private static List<Call> refusedAlways() {
        List<Call> calls = new ArrayList<>();
        for (int n : new int[] {0, 9, -1, Integer.MIN_VALUE, Integer.MAX_VALUE}) {
            calls.add(new Call("write(" + n + ", right)", ARGUMENT, x -> x.write(n, BYTES)));
            calls.add(new Call("write(" + n + ", wrong)", ARGUMENT, x -> x.write(n, -1)));
            calls.add(new Call("put(" + n + ", right)", ARGUMENT, x -> x.put(n, BYTES)));
            calls.add(new Call("put(" + n + ", wrong)", ARGUMENT, x -> x.put(n, 0)));
        }
        for (int n = 1; n <= 8; n++) {
            int count = n;
            long high = 255L << 8 * (n - 1);
            calls.add(new Call("write of a wrong last one of " + n, ARGUMENT, x -> x.write(count, BYTES | high)));
            calls.add(new Call("put of a wrong last one of " + n, ARGUMENT, x -> x.put(count, BYTES & ~high)));
        }
        for (int i : new int[] {-1, 800, Integer.MIN_VALUE, Integer.MAX_VALUE}) {
            calls.add(new Call("symbol(" + i + ")", NONE, x -> x.symbol(i)));
            calls.add(new Call("width(" + i + ")", NONE, x -> x.width(i)));
            calls.add(new Call("sign(" + i + ")", NONE, x -> x.sign(i)));
            for (int width : new int[] {1, 2000, 0, 2001, Integer.MIN_VALUE, Integer.MAX_VALUE}) {
                calls.add(new Call("spoil(" + i + ", " + width + ")", INDEX, x -> x.spoil(i, width)));
            }
        }
        for (int module : new int[] {0, 51, -1, Integer.MIN_VALUE, Integer.MAX_VALUE}) {
            calls.add(new Call("bars(" + module + ")", ARGUMENT, x -> x.bars(module)));
            calls.add(new Call("thirteen(0, " + module + ")", ARGUMENT, x -> x.thirteen(0, module)));
            calls.add(new Call("thirteen(-1, " + module + ")", ARGUMENT, x -> x.thirteen(-1, module)));
        }
        for (long twelve : new long[] {-1, MOST + 1, Long.MIN_VALUE, Long.MAX_VALUE}) {
            calls.add(new Call("checkFigure(" + twelve + ")", ARGUMENT, x -> x.checkFigure(twelve)));
            calls.add(new Call("thirteen(" + twelve + ", 1)", ARGUMENT, x -> x.thirteen(twelve, 1)));
        }
        return calls;
    }

    private static List<Call> refusedIn(String state) {
        List<Call> calls = new ArrayList<>();
        switch (state) {
            case "new" -> {
                calls.add(new Call("symbol(0)", NONE, x -> x.symbol(0)));
                calls.add(new Call("width(0)", NONE, x -> x.width(0)));
                calls.add(new Call("sign(0)", NONE, x -> x.sign(0)));
                calls.add(new Call("spoil(0, 1)", INDEX, x -> x.spoil(0, 1)));
                calls.add(new Call("spoil(0, 0)", INDEX, x -> x.spoil(0, 0)));
                calls.add(new Call("bars(1)", STATE, x -> x.bars(1)));
                calls.add(new Call("bars(50)", STATE, x -> x.bars(50)));
            }
            case "text", "strip" -> calls.add(new Call("bars(1)", STATE, x -> x.bars(1)));
            case "full", "nearly full" -> {
                for (int n = state.equals("full") ? 1 : 2; n <= 8; n++) {
                    int count = n;
                    calls.add(new Call("write(" + n + ", right)", NONE, x -> x.write(count, BYTES)));
                    calls.add(new Call("put(" + n + ", right)", NONE, x -> x.put(count, BYTES)));
                }
            }
            default -> { }
        }
        if (state.equals("strip") || state.startsWith("read") || state.endsWith("full")) {
            for (int width : new int[] {0, 2001, -1, Integer.MIN_VALUE, Integer.MAX_VALUE}) {
                calls.add(new Call("spoil(0, " + width + ")", ARGUMENT, x -> x.spoil(0, width)));
                calls.add(new Call("spoil(2, " + width + ")", ARGUMENT, x -> x.spoil(2, width)));
            }
        }
        return calls;
    }

    private static LineCodes made(Consumer<LineCodes> state) {
        LineCodes x = new LineCodes();
        state.accept(x);
        return x;
    }

    private static Object answer(LineCodes x, Call call) {
        try {
            return call.made().apply(x);
        } catch (RuntimeException e) {
            return e.getClass();
        }
    }

    private static void dueUnchanged(String state, Consumer<LineCodes> fill, Call call) {
        LineCodes x = made(fill);
        CHECKS.due(call.name() + " in state " + state, answer(x, call), call.due());
        CHECKS.due("all after " + call.name() + " in state " + state, whole(x), whole(made(fill)));
    }

    /** The text shows by the row that it is packed to, so it comes last. */
    private static String whole(LineCodes x) {
        String seen = Codes.seen(x);
        x.pack();
        return seen + " " + Codes.row(x) + " " + x.wipe();
    }

    private static void askingChangesNothing(String state, Consumer<LineCodes> fill) {
        LineCodes x = made(fill);
        x.symbol(0);
        x.width(0);
        x.sign(0);
        x.backwards();
        x.checkFigure(MOST);
        CHECKS.due("all after questions in state " + state, whole(x), whole(made(fill)));
    }

    private static void readChangesWhatWasReadAlone(String state, Consumer<LineCodes> fill) {
        LineCodes x = made(fill);
        LineCodes y = made(fill);
        x.read();
        CHECKS.due("the row after read() in state " + state, Codes.row(x), Codes.row(y));
        CHECKS.due("the strip after read() in state " + state, Codes.strip(x), Codes.strip(y));
        x.pack();
        y.pack();
        CHECKS.due("the text after read() in state " + state, Codes.row(x), Codes.row(y));
        CHECKS.due("its signs", x.wipe(), y.wipe());
    }
}
