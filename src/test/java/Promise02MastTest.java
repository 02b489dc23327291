/** Promise 2: mast. */
public final class Promise02MastTest {
    public static void main(String[] args) {
        numbersAndFirstState();
        edges();
        wrongInputs();
        Check.end("Promise02MastTest");
    }

    private static void numbersAndFirstState() {
        Mastline line = new Mastline();
        for (int number = 0; number < 8; number++) {
            int n = number;
            Check.due("mast " + n, n, () -> line.mast(n, 5, 2, 1, 9, n % 2 == 0));
            Check.due("a new mast is not ON", 0, () -> line.ofMast(n, 0));
            Check.due("a new mast carries none", 0, () -> line.ofMast(n, 1));
            Check.due("a new mast's battery is empty", 0, () -> line.ofMast(n, 2));
            Check.due("a new mast took none of the grid", 0, () -> line.ofMast(n, 3));
            Check.due("a new mast has no traffic", 0, () -> line.ofMast(n, 4));
            Check.due("a new mast has no lease", -1, () -> line.ofMast(n, 5));
            Check.due("a new mast's traffic anew", 0, () -> line.trafficAnew(n));
        }
        Check.due("the ninth mast", Check.STATE, () -> line.mast(1, 5, 2, 1, 9, true));
        Check.due("the ninth mast, out of range too", Check.ARGUMENT, () -> line.mast(100, 5, 2, 1, 9, true));
        Check.due("no ninth mast", Check.BOUNDS, () -> line.ofMast(8, 0));
    }

    private static void edges() {
        Mastline line = new Mastline();
        Check.due("all least", 0, () -> line.mast(0, 1, 1, 0, 0, false));
        Check.due("all most", 1, () -> line.mast(99, 40, 10, 10, 100, true));
        line.lease(0, 0, -1, 10, 5, 0, 0);
        Check.due("places 0 and 1 are covered", 98, line::holes);
        line.lease(1, 0, -1, 10, 5, 0, 0);
        Check.due("places 59 to 99 are covered too", 57, line::holes);
    }

    private static void wrongInputs() {
        Mastline line = new Mastline();
        int[][] wrong = {
            {-1, 5, 2, 1, 9}, {100, 5, 2, 1, 9}, {Integer.MIN_VALUE, 5, 2, 1, 9}, {Integer.MAX_VALUE, 5, 2, 1, 9},
            {1, 0, 2, 1, 9}, {1, 41, 2, 1, 9}, {1, -1, 2, 1, 9}, {1, Integer.MAX_VALUE, 2, 1, 9},
            {1, 5, 0, 1, 9}, {1, 5, 11, 1, 9}, {1, 5, -1, 1, 9},
            {1, 5, 2, -1, 9}, {1, 5, 2, 11, 9},
            {1, 5, 2, 1, -1}, {1, 5, 2, 1, 101}, {1, 5, 2, 1, Integer.MAX_VALUE},
        };
        for (int[] w : wrong) {
            Check.due("mast" + java.util.Arrays.toString(w), Check.ARGUMENT,
                    () -> line.mast(w[0], w[1], w[2], w[3], w[4], true));
        }
        Check.due("none was set up", Check.BOUNDS, () -> line.ofMast(0, 0));
        Check.due("the next is mast 0", 0, () -> line.mast(1, 5, 2, 1, 9, true));
    }
}
