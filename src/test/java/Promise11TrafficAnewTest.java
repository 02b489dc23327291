/** Promise 11: trafficAnew. */
public final class Promise11TrafficAnewTest {
    public static void main(String[] args) {
        callsThatEndAndCallsThatGoOn();
        handovers();
        wrongInputs();
        aLongLog();
        Check.end("Promise11TrafficAnewTest");
    }

    private static void onMast(Mastline line, int place, int range) {
        int mast = line.mast(place, range, 10, 0, 0, true);
        line.lease(mast, 0, -1, 10, 10000, 0, 0);
    }

    private static void callsThatEndAndCallsThatGoOn() {
        Mastline line = new Mastline();
        onMast(line, 50, 10);
        line.phone(50);
        line.phone(50);
        Check.due("no call", 0, () -> line.trafficAnew(0));
        line.pass(3);
        line.call(0);
        Check.due("a call of no hours", 0, () -> line.trafficAnew(0));
        line.pass(4);
        Check.due("a call that goes on", 4, () -> line.trafficAnew(0));
        line.call(1);
        line.end(0);
        Check.due("one that ended, one that began", 4, () -> line.trafficAnew(0));
        line.pass(2);
        Check.due("one that ended, one that goes on", 6, () -> line.trafficAnew(0));
        line.call(0);
        line.end(0);
        line.end(1);
        line.pass(50);
        Check.due("all ended", 6, () -> line.trafficAnew(0));
        Check.due("as counted", 6, () -> line.ofMast(0, 4));
    }

    private static void handovers() {
        Mastline line = new Mastline();
        onMast(line, 20, 10);
        onMast(line, 40, 10);
        line.phone(20);
        line.call(0);
        line.pass(3);
        line.move(0, 35);
        line.pass(5);
        Check.due("until it was handed over", 3, () -> line.trafficAnew(0));
        Check.due("since it was handed over", 5, () -> line.trafficAnew(1));
        line.move(0, 99);
        line.pass(7);
        Check.due("until it was DROPPED", 5, () -> line.trafficAnew(1));
        Mastline ends = new Mastline();
        ends.mast(20, 10, 1, 0, 0, true);
        ends.lease(0, 0, -1, 10, 4, 0, 0);
        onMast(ends, 25, 10);
        ends.phone(20);
        ends.call(0);
        ends.pass(10);
        Check.due("until the lease ended", 4, () -> ends.trafficAnew(0));
        Check.due("since the lease ended", 6, () -> ends.trafficAnew(1));
    }

    private static void wrongInputs() {
        Mastline line = new Mastline();
        onMast(line, 50, 10);
        for (int wrong : new int[] {-1, 1, 8, Integer.MIN_VALUE, Integer.MAX_VALUE}) {
            Check.due("trafficAnew(" + wrong + ")", Check.BOUNDS, () -> line.trafficAnew(wrong));
        }
    }

    /** Masts that have units for themselves, but for no call: so twelve calls are handed over each hour. */
    private static void aLongLog() {
        Mastline line = new Mastline();
        for (int mast = 0; mast < 4; mast++) {
            line.mast(50, 10, 10, 2, 0, false);
            line.lease(mast, 0, -1, 10, 10000, 0, 1);
        }
        line.sun(1);
        for (int phone = 0; phone < 12; phone++) {
            line.phone(50);
            line.call(phone);
        }
        for (int i = 0; i < 100; i++) {
            line.pass(100);
        }
        int all = 0;
        for (int mast = 0; mast < 4; mast++) {
            int m = mast;
            int counted = line.ofMast(m, 4);
            all += counted;
            Check.due("the long log of mast " + m, counted, () -> line.trafficAnew(m));
        }
        int sum = all;
        Check.due("twelve calls in each hour", 120000, () -> sum);
        Check.due("handed over in each hour", 10000, () -> line.ofPhone(11, 4) + line.ofPhone(11, 3));
        Check.due("paid by the hours of calls", 120000, () -> line.paid(0));
    }
}
