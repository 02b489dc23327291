/** Promise 4: sun. */
public final class Promise04SunTest {
    public static void main(String[] args) {
        Mastline line = new Mastline();
        Check.due("the first sun", 0, () -> line.sun(10));
        Check.due("a later sun", 10, () -> line.sun(3));
        Check.due("sun -1", Check.ARGUMENT, () -> line.sun(-1));
        Check.due("sun 11", Check.ARGUMENT, () -> line.sun(11));
        Check.due("sun, very high", Check.ARGUMENT, () -> line.sun(Integer.MAX_VALUE));
        Check.due("sun, very low", Check.ARGUMENT, () -> line.sun(Integer.MIN_VALUE));
        Check.due("a sun that throws changes nothing", 3, () -> line.sun(0));
        Check.due("sun 0 was told", 0, () -> line.sun(0));
        sunOfNowAndLaterHours();
        Check.end("Promise04SunTest");
    }

    private static void sunOfNowAndLaterHours() {
        Mastline line = new Mastline();
        line.mast(10, 5, 2, 2, 100, false);
        line.lease(0, 0, -1, 10, 100, 0, 0);
        line.sun(9);
        line.sun(4);
        line.pass(1);
        Check.due("the latest sun counts for the hour of now", 6, () -> line.ofMast(0, 2));
        line.pass(2);
        Check.due("and for later ones", 18, () -> line.ofMast(0, 2));
        line.sun(1);
        line.pass(1);
        Check.due("a lower sun", 18, () -> line.ofMast(0, 2));
        line.sun(0);
        line.pass(3);
        Check.due("no sun", 12, () -> line.ofMast(0, 2));
    }
}
