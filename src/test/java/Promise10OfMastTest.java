/** Promise 10: ofMast. */
public final class Promise10OfMastTest {
    public static void main(String[] args) {
        Mastline line = new Mastline();
        line.mast(10, 5, 2, 2, 30, true);
        line.mast(30, 5, 3, 0, 0, true);
        line.lease(0, 0, -1, 10, 77, 0, 0);
        line.lease(1, 0, -1, 10, 88, 0, 0);
        line.phone(30);
        line.phone(31);
        line.phone(10);
        line.call(0);
        line.call(1);
        line.call(2);
        line.sun(4);
        line.pass(4);
        dueAll(line, 0, new int[] {1, 1, 20, 0, 4, 77});
        dueAll(line, 1, new int[] {1, 2, 0, 16, 8, 88});
        line.end(1);
        line.pass(1);
        dueAll(line, 1, new int[] {1, 1, 0, 19, 9, 88});
        String before = Check.state(line);
        for (int wrong : new int[] {-1, 6, Integer.MIN_VALUE, Integer.MAX_VALUE}) {
            Check.due("ofMast(0, " + wrong + ")", Check.ARGUMENT, () -> line.ofMast(0, wrong));
            Check.due("ofMast(2, " + wrong + ")", Check.BOUNDS, () -> line.ofMast(2, wrong));
        }
        for (int wrong : new int[] {-1, 2, 7, 8, Integer.MIN_VALUE, Integer.MAX_VALUE}) {
            Check.due("ofMast(" + wrong + ", 0)", Check.BOUNDS, () -> line.ofMast(wrong, 0));
        }
        Check.due("the state after questions", before, () -> Check.state(line));
        Check.end("Promise10OfMastTest");
    }

    private static void dueAll(Mastline line, int mast, int[] want) {
        for (int what = 0; what < want.length; what++) {
            int w = what;
            Check.due("ofMast(" + mast + ", " + w + ")", want[w], () -> line.ofMast(mast, w));
        }
    }
}
