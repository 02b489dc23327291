/** Promise 6: call. */
public final class Promise06CallTest {
    public static void main(String[] args) {
        nearestThenLowest();
        rangeAndOn();
        fullMasts();
        wrongInputs();
        Check.end("Promise06CallTest");
    }

    /** A mast on the grid with a lease until hour 100. */
    private static void onMast(Mastline line, int place, int range, int calls) {
        int mast = line.mast(place, range, calls, 0, 0, true);
        line.lease(mast, 0, -1, 10, 100, 0, 0);
    }

    private static void nearestThenLowest() {
        Mastline line = new Mastline();
        onMast(line, 20, 20, 1);
        onMast(line, 40, 20, 1);
        onMast(line, 26, 20, 1);
        line.phone(30);
        line.phone(30);
        line.phone(30);
        line.phone(30);
        Check.due("the nearest", 2, () -> line.call(0));
        Check.due("of two, the lowest", 0, () -> line.call(1));
        Check.due("the one that is left", 1, () -> line.call(2));
        Check.due("none is left", -1, () -> line.call(3));
        Check.due("it is BLOCKED", 1, () -> line.ofPhone(3, 2));
        Check.due("the others are not", 0, () -> line.ofPhone(2, 2));
        Check.due("it is not DROPPED", 0, () -> line.ofPhone(3, 3));
        Check.due("a call is not handed over", 0, () -> line.ofPhone(0, 4));
        Check.due("again none is left", -1, () -> line.call(3));
        Check.due("twice BLOCKED", 2, () -> line.ofPhone(3, 2));
        line.end(1);
        Check.due("a place is free again", 0, () -> line.call(3));
        Check.due("still twice BLOCKED", 2, () -> line.ofPhone(3, 2));
    }

    private static void rangeAndOn() {
        Mastline line = new Mastline();
        line.mast(50, 10, 3, 0, 0, true);
        line.phone(40);
        line.phone(60);
        line.phone(39);
        line.phone(61);
        Check.due("no lease", -1, () -> line.call(0));
        line.lease(0, 0, -1, 10, 100, 0, 0);
        Check.due("at its range, below", 0, () -> line.call(0));
        Check.due("at its range, above", 0, () -> line.call(1));
        Check.due("beyond its range, below", -1, () -> line.call(2));
        Check.due("beyond its range, above", -1, () -> line.call(3));
        Mastline dark = new Mastline();
        dark.mast(50, 10, 3, 0, 0, false);
        dark.lease(0, 0, -1, 10, 100, 0, 0);
        dark.phone(50);
        dark.pass(1);
        Check.due("OUT", -1, () -> dark.call(0));
        Check.due("BLOCKED by a mast that is OUT", 1, () -> dark.ofPhone(0, 2));
    }

    private static void fullMasts() {
        Mastline line = new Mastline();
        onMast(line, 50, 10, 10);
        for (int phone = 0; phone < 12; phone++) {
            int p = phone;
            line.phone(50);
            Check.due("call " + p, p < 10 ? 0 : -1, () -> line.call(p));
        }
        Check.due("it carries ten", 10, () -> line.ofMast(0, 1));
    }

    private static void wrongInputs() {
        Mastline line = new Mastline();
        onMast(line, 50, 10, 10);
        line.phone(50);
        line.phone(90);
        line.call(0);
        line.pass(1);
        line.call(1);
        String before = Check.state(line);
        for (int wrong : new int[] {-1, 2, 12, Integer.MIN_VALUE, Integer.MAX_VALUE}) {
            Check.due("call(" + wrong + ")", Check.BOUNDS, () -> line.call(wrong));
        }
        Check.due("it is calling", Check.STATE, () -> line.call(0));
        Check.due("the state after calls that throw", before, () -> Check.state(line));
        Check.due("a BLOCKED phone may call again", -1, () -> line.call(1));
    }
}
