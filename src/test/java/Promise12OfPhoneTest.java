/** Promise 12: ofPhone. */
public final class Promise12OfPhoneTest {
    public static void main(String[] args) {
        Mastline line = new Mastline();
        line.mast(10, 10, 2, 0, 0, true);
        line.mast(30, 10, 2, 0, 0, true);
        line.phone(5);
        line.phone(25);
        dueAll(line, 0, new int[] {5, -1, 0, 0, 0});
        line.call(1);
        dueAll(line, 1, new int[] {25, -1, 1, 0, 0});
        line.lease(0, 0, -1, 10, 100, 0, 0);
        line.lease(1, 0, -1, 10, 5, 0, 0);
        line.call(0);
        dueAll(line, 0, new int[] {5, 0, 0, 0, 0});
        line.move(0, 21);
        dueAll(line, 0, new int[] {21, 1, 0, 0, 1});
        line.move(0, 20);
        line.pass(5);
        dueAll(line, 0, new int[] {20, 0, 0, 0, 2});
        line.move(0, 21);
        dueAll(line, 0, new int[] {21, -1, 0, 1, 2});
        line.call(0);
        dueAll(line, 0, new int[] {21, -1, 1, 1, 2});
        line.move(0, 0);
        line.call(0);
        dueAll(line, 0, new int[] {0, 0, 1, 1, 2});
        line.end(0);
        dueAll(line, 0, new int[] {0, -1, 1, 1, 2});
        dueAll(line, 1, new int[] {25, -1, 1, 0, 0});
        for (int wrong : new int[] {-1, 5, Integer.MIN_VALUE, Integer.MAX_VALUE}) {
            Check.due("ofPhone(0, " + wrong + ")", Check.ARGUMENT, () -> line.ofPhone(0, wrong));
            Check.due("ofPhone(2, " + wrong + ")", Check.BOUNDS, () -> line.ofPhone(2, wrong));
        }
        for (int wrong : new int[] {-1, 2, 11, 12, Integer.MIN_VALUE, Integer.MAX_VALUE}) {
            Check.due("ofPhone(" + wrong + ", 0)", Check.BOUNDS, () -> line.ofPhone(wrong, 0));
        }
        dueAll(line, 0, new int[] {0, -1, 1, 1, 2});
        Check.end("Promise12OfPhoneTest");
    }

    private static void dueAll(Mastline line, int phone, int[] want) {
        for (int what = 0; what < want.length; what++) {
            int w = what;
            Check.due("ofPhone(" + phone + ", " + w + ")", want[w], () -> line.ofPhone(phone, w));
        }
    }
}
