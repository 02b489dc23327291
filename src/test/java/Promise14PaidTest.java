/** Promise 14: paid. */
public final class Promise14PaidTest {
    public static void main(String[] args) {
        shares();
        roundedDownEachHour();
        severalMastsAndFarmers();
        mostThatCanBePaid();
        wrongInputs();
        Check.end("Promise14PaidTest");
    }

    private static void shares() {
        for (int tenths = 0; tenths <= 10; tenths++) {
            int t = tenths;
            Mastline line = new Mastline();
            line.mast(50, 10, 2, 0, 0, true);
            line.lease(0, 1, 3, t, 100, 17, 6);
            line.phone(50);
            line.call(0);
            line.pass(1);
            int first = 23 * t / 10;
            Check.due(t + " tenths, the first", first, () -> line.paid(1));
            Check.due(t + " tenths, the other", 23 - first, () -> line.paid(3));
            Check.due("nobody else", 0, () -> line.paid(0) + line.paid(2) + line.paid(4) + line.paid(5));
        }
        Mastline alone = new Mastline();
        alone.mast(50, 10, 2, 0, 0, true);
        alone.lease(0, 4, -1, 10, 100, 17, 6);
        alone.pass(1);
        Check.due("one farmer alone", 17, () -> alone.paid(4));
    }

    /** Both rents together: 9 and 1 by halves is 5 and 5, not 4 and 0. */
    private static void roundedDownEachHour() {
        Mastline line = new Mastline();
        line.mast(50, 10, 2, 0, 0, true);
        line.lease(0, 0, 1, 5, 100, 9, 1);
        line.phone(50);
        line.call(0);
        line.pass(1);
        Check.due("both rents together", "5 5", () -> line.paid(0) + " " + line.paid(1));
        line.end(0);
        line.pass(2);
        Check.due("rounded down in each hour", "13 15", () -> line.paid(0) + " " + line.paid(1));
    }

    private static void severalMastsAndFarmers() {
        Mastline line = new Mastline();
        line.mast(20, 10, 2, 0, 0, true);
        line.mast(60, 10, 2, 0, 0, false);
        line.lease(0, 0, 5, 7, 3, 100, 10);
        line.lease(1, 5, -1, 10, 2, 40, 1);
        line.phone(20);
        line.phone(20);
        line.phone(60);
        line.call(0);
        line.call(1);
        line.call(2);
        line.pass(5);
        Check.due("of one mast", 3 * 84, () -> line.paid(0));
        Check.due("of both, one of which is OUT after its first hour", 3 * 36 + 41 + 40, () -> line.paid(5));
    }

    private static void mostThatCanBePaid() {
        Mastline line = new Mastline();
        for (int mast = 0; mast < 8; mast++) {
            line.mast(50, 10, 10, 0, 0, true);
            line.lease(mast, 0, -1, 10, 10000, 1000, 100);
        }
        for (int phone = 0; phone < 12; phone++) {
            line.phone(50);
            line.call(phone);
        }
        for (int i = 0; i < 100; i++) {
            line.pass(100);
        }
        Check.due("eight rents and twelve calls", 10000 * (8 * 1000 + 12 * 100), () -> line.paid(0));
    }

    private static void wrongInputs() {
        Mastline line = new Mastline();
        for (int wrong : new int[] {-1, 6, Integer.MIN_VALUE, Integer.MAX_VALUE}) {
            Check.due("paid(" + wrong + ")", Check.BOUNDS, () -> line.paid(wrong));
        }
        Check.due("paid(5)", 0, () -> line.paid(5));
    }
}
