/** Promise 9: pass, with what the terms say of an hour. */
public final class Promise09PassTest {
    public static void main(String[] args) {
        hours();
        power();
        outOutlivesTheLease();
        leaseEnds();
        trafficAndRentBeforePower();
        handoverByPhones();
        handoverAfterAllHavePower();
        Check.end("Promise09PassTest");
    }

    private static void hours() {
        Mastline line = new Mastline();
        for (int wrong : new int[] {0, -1, 101, Integer.MIN_VALUE, Integer.MAX_VALUE}) {
            Check.due("pass(" + wrong + ")", Check.ARGUMENT, () -> line.pass(wrong));
        }
        Check.due("pass(1)", 1, () -> line.pass(1));
        for (int i = 1; i < 100; i++) {
            int want = 1 + 100 * i;
            Check.due("pass(100)", want, () -> line.pass(100));
        }
        line.mast(10, 5, 2, 0, 0, true);
        line.lease(0, 0, -1, 10, 10000, 1, 0);
        Check.due("pass(98)", 9999, () -> line.pass(98));
        String before = Check.state(line);
        Check.due("above 10000", Check.STATE, () -> line.pass(2));
        Check.due("far above 10000", Check.STATE, () -> line.pass(100));
        Check.due("out of range, near the last hour", Check.ARGUMENT, () -> line.pass(101));
        Check.due("out of range, far below", Check.ARGUMENT, () -> line.pass(-100));
        Check.due("the state after passes that throw", before, () -> Check.state(line));
        Check.due("to 10000", 10000, () -> line.pass(1));
        Check.due("from 10000", Check.STATE, () -> line.pass(1));
        Check.due("a lease to the last hour ends", -1, () -> line.ofMast(0, 5));
        Check.dueAct("no lease is above the last hour", Check.ARGUMENT, () -> line.lease(0, 0, -1, 10, 10000, 1, 0));
        Check.due("its rents", 99, () -> line.paid(0));
    }

    private static void power() {
        Mastline line = new Mastline();
        line.mast(10, 5, 2, 3, 10, false);
        line.mast(20, 5, 2, 1, 4, true);
        line.mast(30, 5, 2, 3, 10, true);
        line.lease(0, 0, -1, 10, 100, 0, 0);
        line.lease(1, 0, -1, 10, 100, 0, 0);
        line.phone(10);
        line.phone(20);
        line.call(0);
        line.call(1);
        line.sun(3);
        line.pass(1);
        dueMast(line, 0, "1 1 6 0 1", "9 units, 3 needed");
        dueMast(line, 1, "1 1 0 0 1", "3 units, 3 needed");
        dueMast(line, 2, "0 0 0 0 0", "no lease, no units");
        line.pass(1);
        dueMast(line, 0, "1 1 10 0 2", "the battery holds no more");
        line.sun(2);
        line.pass(1);
        dueMast(line, 1, "1 1 0 1 3", "1 unit of the grid");
        line.sun(0);
        line.pass(2);
        dueMast(line, 0, "1 1 4 0 5", "of the battery");
        dueMast(line, 1, "1 1 0 7 5", "3 units an hour of the grid");
        line.pass(1);
        dueMast(line, 0, "1 1 1 0 6", "of the battery");
        line.pass(1);
        dueMast(line, 0, "0 0 1 0 7", "OUT, the battery keeps its unit");
        line.pass(1);
        dueMast(line, 0, "0 0 1 0 7", "still OUT: 2 units needed");
        line.sun(1);
        line.pass(1);
        dueMast(line, 0, "1 0 2 0 7", "ON again");
        smallBatteryWhenOut();
        gridTakesTheBatteryFirst();
    }

    private static void smallBatteryWhenOut() {
        Mastline line = new Mastline();
        line.mast(10, 5, 2, 1, 1, false);
        line.lease(0, 0, -1, 10, 100, 0, 0);
        line.phone(10);
        line.phone(10);
        line.call(0);
        line.call(1);
        line.sun(3);
        line.pass(1);
        dueMast(line, 0, "0 0 1 0 2", "OUT with 3 units, of which the battery holds 1");
    }

    private static void gridTakesTheBatteryFirst() {
        Mastline line = new Mastline();
        line.mast(10, 5, 2, 1, 10, true);
        line.lease(0, 0, -1, 10, 100, 0, 0);
        line.sun(3);
        line.pass(1);
        line.sun(0);
        line.pass(1);
        dueMast(line, 0, "1 0 0 1 0", "1 unit of the battery, 1 of the grid");
    }

    private static void outOutlivesTheLease() {
        Mastline line = new Mastline();
        line.mast(10, 5, 2, 1, 0, false);
        line.lease(0, 0, -1, 10, 1, 5, 0);
        line.pass(1);
        line.lease(0, 1, -1, 10, 2, 5, 0);
        Check.due("OUT in the latest hour, whatever lease it had then", 0, () -> line.ofMast(0, 0));
        Check.due("so it is a hole", 100, line::holes);
        line.sun(2);
        line.pass(1);
        Check.due("a mast that is not ON pays its rent", 5, () -> line.paid(1));
        line.lease(0, 1, -1, 10, 3, 5, 0);
        Check.due("not OUT in the latest hour", 1, () -> line.ofMast(0, 0));
        line.sun(0);
        line.pass(1);
        line.pass(1);
        line.lease(0, 1, -1, 10, 9, 5, 0);
        Check.due("no lease in the latest hour, so not OUT", 1, () -> line.ofMast(0, 0));
    }

    private static void leaseEnds() {
        Mastline line = new Mastline();
        line.mast(10, 5, 2, 1, 50, true);
        line.lease(0, 0, -1, 10, 3, 10, 0);
        line.phone(10);
        line.call(0);
        line.sun(5);
        line.pass(2);
        dueMast(line, 0, "1 1 4 0 2", "before its end");
        line.pass(1);
        dueMast(line, 0, "0 0 6 0 3", "after its end");
        Check.due("the call is DROPPED", 1, () -> line.ofPhone(0, 3));
        Check.due("three hours of rent", 30, () -> line.paid(0));
        line.pass(10);
        dueMast(line, 0, "0 0 6 0 3", "no lease, no power");
        Check.due("no rent any more", 30, () -> line.paid(0));
        line.lease(0, 0, -1, 10, 20, 10, 0);
        line.pass(1);
        dueMast(line, 0, "1 0 9 0 3", "a lease anew has the battery as it was");
        Mastline once = new Mastline();
        once.mast(10, 5, 2, 0, 0, true);
        once.lease(0, 0, -1, 10, 3, 10, 0);
        once.pass(10);
        Check.due("it ends within one pass", "30 -1", () -> once.paid(0) + " " + once.ofMast(0, 5));
    }

    private static void trafficAndRentBeforePower() {
        Mastline line = new Mastline();
        line.mast(10, 5, 2, 0, 0, false);
        line.lease(0, 0, -1, 10, 100, 10, 7);
        line.phone(10);
        line.phone(11);
        line.call(0);
        line.call(1);
        line.pass(1);
        dueMast(line, 0, "0 0 0 0 2", "the hour in which it is OUT counts");
        Check.due("and is paid", 24, () -> line.paid(0));
        Check.due("the calls are DROPPED", "1 1", () -> line.ofPhone(0, 3) + " " + line.ofPhone(1, 3));
    }

    private static void handoverByPhones() {
        Mastline line = new Mastline();
        line.mast(50, 10, 5, 0, 0, true);
        line.mast(45, 10, 1, 0, 0, true);
        line.mast(55, 10, 1, 0, 0, true);
        line.lease(0, 0, -1, 10, 2, 0, 0);
        line.lease(1, 0, -1, 10, 100, 0, 0);
        line.lease(2, 0, -1, 10, 100, 0, 0);
        for (int phone = 0; phone < 4; phone++) {
            line.phone(50);
        }
        line.call(3);
        line.call(2);
        line.call(1);
        line.pass(2);
        Check.due("the lowest phone, to the lowest of the nearest", 1, () -> line.ofPhone(1, 1));
        Check.due("the next one", 2, () -> line.ofPhone(2, 1));
        Check.due("none is left for the last", -1, () -> line.ofPhone(3, 1));
        Check.due("handed over", "0 1 1 0", () -> line.ofPhone(0, 4) + " " + line.ofPhone(1, 4) + " "
                + line.ofPhone(2, 4) + " " + line.ofPhone(3, 4));
        Check.due("DROPPED", "0 0 0 1", () -> line.ofPhone(0, 3) + " " + line.ofPhone(1, 3) + " "
                + line.ofPhone(2, 3) + " " + line.ofPhone(3, 3));
        Check.due("the mast that is left carries none", 0, () -> line.ofMast(0, 1));
    }

    /** Mast 1 becomes OUT in the very hour in which mast 0 does, and mast 2 comes back in it. */
    private static void handoverAfterAllHavePower() {
        Mastline line = new Mastline();
        line.mast(50, 10, 2, 0, 0, false);
        line.mast(50, 10, 2, 0, 0, false);
        line.mast(55, 10, 2, 1, 0, false);
        line.lease(2, 0, -1, 10, 100, 0, 0);
        line.pass(1);
        line.lease(0, 0, -1, 10, 100, 0, 0);
        line.lease(1, 0, -1, 10, 100, 0, 0);
        line.phone(50);
        Check.due("mast 2 is OUT", 0, () -> line.ofMast(2, 0));
        Check.due("the call", 0, () -> line.call(0));
        line.sun(2);
        line.pass(1);
        Check.due("handed over to mast 2", 2, () -> line.ofPhone(0, 1));
        line.pass(1);
        Check.due("which has no unit for it", -1, () -> line.ofPhone(0, 1));
    }

    /** ON, carried, units, of the grid, traffic. */
    private static void dueMast(Mastline line, int mast, String want, String name) {
        Check.due(name, want, () -> line.ofMast(mast, 0) + " " + line.ofMast(mast, 1) + " " + line.ofMast(mast, 2)
                + " " + line.ofMast(mast, 3) + " " + line.ofMast(mast, 4));
    }
}
