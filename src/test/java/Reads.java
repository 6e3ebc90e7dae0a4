/** What is due when a strip is read, and when the same strip is read the other way round. */
final class Reads {
    private final Checks checks;

    Reads(Checks checks) {
        this.checks = checks;
    }

    void dueTold(int[] widths, int... signs) {
        LineCodes x = Codes.withStrip(widths);
        for (boolean back : new boolean[] {false, true}) {
            String before = Codes.strip(x).toString();
            checks.due("read() of " + before, x.read(), signs.length);
            checks.due("what it tells", Codes.told(x), Codes.list(signs));
            checks.due("backwards()", x.backwards(), back);
            checks.due("no sign behind", x.sign(signs.length), -1);
            checks.due("no sign ahead", x.sign(-1), -1);
            checks.due("no sign far off", x.sign(Integer.MAX_VALUE), -1);
            checks.due("the strip after read()", Codes.strip(x).toString(), before);
            x.turn();
        }
    }

    /** Something was read from the back before, so that it can be seen whether it goes. */
    void dueRefused(int[] widths) {
        LineCodes x = new LineCodes();
        for (int[] strip : new int[][] {widths, Codes.turned(widths)}) {
            x.thirteen(1, 1);
            x.turn();
            x.read();
            Codes.fillStrip(x, strip);
            checks.due("read() of " + Codes.strip(x), x.read(), -1);
            checks.due("backwards() then", x.backwards(), false);
            checks.due("sign(0) then", x.sign(0), -1);
            checks.due("the strip after read()", Codes.strip(x), Codes.list(strip));
        }
    }
}
