/** Promise 1. */
public final class NewObjectTest {
    public static void main(String[] args) {
        Checks checks = new Checks();
        LineCodes x = new LineCodes();
        for (int i : new int[] {0, 1, -1, Integer.MIN_VALUE, Integer.MAX_VALUE}) {
            checks.due("symbol of none", x.symbol(i), -1);
            checks.due("width of none", x.width(i), -1);
            checks.due("sign of none", x.sign(i), -1);
            checks.dueThrows("spoil of none", IndexOutOfBoundsException.class, () -> x.spoil(i, 1));
        }
        checks.due("backwards()", x.backwards(), false);
        checks.dueThrows("bars(1)", IllegalStateException.class, () -> x.bars(1));
        checks.due("read()", x.read(), -1);
        checks.due("wipe()", x.wipe(), 0);
        checks.due("clear()", x.clear(), 0);
        checks.due("turn()", x.turn(), 0);

        LineCodes other = new LineCodes();
        Codes.fillText(x, 65);
        x.pack();
        x.bars(1);
        x.read();
        checks.due("another object's state", Codes.seen(other), "[] [] [] false");
        checks.due("another object's text", other.wipe(), 0);
        checks.end();
    }
}
