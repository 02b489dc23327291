/** Promise 1: a new object. */
public final class Promise01NewTest {
    public static void main(String[] args) {
        Mastline line = new Mastline();
        for (int mast = -1; mast < 9; mast++) {
            int m = mast;
            Check.due("ofMast of a new object", Check.BOUNDS, () -> line.ofMast(m, 0));
        }
        for (int phone = -1; phone < 13; phone++) {
            int p = phone;
            Check.due("ofPhone of a new object", Check.BOUNDS, () -> line.ofPhone(p, 0));
        }
        for (int farmer = 0; farmer < 6; farmer++) {
            int f = farmer;
            Check.due("paid of a new object", 0, () -> line.paid(f));
        }
        Check.due("holes of a new object", 100, line::holes);
        Check.due("sun of a new object", 0, () -> line.sun(0));
        Check.due("the hour of a new object", 1, () -> line.pass(1));
        twoObjectsShareNothing();
        Check.end("Promise01NewTest");
    }

    private static void twoObjectsShareNothing() {
        Mastline first = new Mastline();
        Mastline second = new Mastline();
        first.mast(50, 40, 1, 1, 1, true);
        first.lease(0, 0, 1, 5, 10, 10, 10);
        first.phone(50);
        first.call(0);
        first.sun(3);
        first.pass(4);
        Check.due("masts of another object", Check.BOUNDS, () -> second.ofMast(0, 0));
        Check.due("phones of another object", Check.BOUNDS, () -> second.ofPhone(0, 0));
        Check.due("rents of another object", 0, () -> second.paid(0));
        Check.due("sun of another object", 0, () -> second.sun(0));
        Check.due("hour of another object", 1, () -> second.pass(1));
    }
}
