/** Promise 3: lease. */
public final class Promise03LeaseTest {
    public static void main(String[] args) {
        leaseAndLeaseAnew();
        edges();
        wrongInputs();
        orderOfExceptions();
        throwingChangesNothing();
        Check.end("Promise03LeaseTest");
    }

    private static Mastline withMast() {
        Mastline line = new Mastline();
        line.mast(10, 5, 2, 0, 0, true);
        return line;
    }

    private static void leaseAndLeaseAnew() {
        Mastline line = withMast();
        Check.dueAct("lease", "nothing", () -> line.lease(0, 2, 4, 3, 2, 100, 0));
        Check.due("it is ON", 1, () -> line.ofMast(0, 0));
        Check.due("its lease ends", 2, () -> line.ofMast(0, 5));
        Check.dueAct("a second lease", Check.STATE, () -> line.lease(0, 1, -1, 10, 9, 1, 1));
        line.pass(1);
        Check.dueAct("a second lease in the last hour", Check.STATE, () -> line.lease(0, 1, -1, 10, 9, 1, 1));
        line.pass(1);
        Check.due("it ended", -1, () -> line.ofMast(0, 5));
        Check.due("it is not ON", 0, () -> line.ofMast(0, 0));
        Check.dueAct("a lease anew", "nothing", () -> line.lease(0, 1, -1, 10, 3, 7, 1));
        line.pass(1);
        Check.due("first of the first lease", 60, () -> line.paid(2));
        Check.due("other of the first lease", 140, () -> line.paid(4));
        Check.due("farmer of the lease anew", 7, () -> line.paid(1));
    }

    private static void edges() {
        Mastline least = withMast();
        Check.dueAct("all least", "nothing", () -> least.lease(0, 0, 5, 0, 1, 0, 0));
        Check.due("until 1", 1, () -> least.ofMast(0, 5));
        Mastline most = withMast();
        Check.dueAct("all most", "nothing", () -> most.lease(0, 5, 0, 10, 10000, 1000, 100));
        Check.due("until 10000", 10000, () -> most.ofMast(0, 5));
        Mastline later = withMast();
        later.pass(7);
        Check.dueAct("until the hour of now", Check.ARGUMENT, () -> later.lease(0, 0, -1, 10, 7, 0, 0));
        Check.dueAct("until an hour that was", Check.ARGUMENT, () -> later.lease(0, 0, -1, 10, 6, 0, 0));
        Check.dueAct("until the next hour", "nothing", () -> later.lease(0, 0, -1, 10, 8, 0, 0));
    }

    private static void wrongInputs() {
        Mastline line = withMast();
        int[][] bounds = {
            {-1, 0, -1, 10, 5, 0, 0}, {1, 0, -1, 10, 5, 0, 0}, {8, 0, -1, 10, 5, 0, 0},
            {Integer.MAX_VALUE, 0, -1, 10, 5, 0, 0}, {Integer.MIN_VALUE, 0, -1, 10, 5, 0, 0},
            {0, -1, -1, 10, 5, 0, 0}, {0, -1, 2, 10, 5, 0, 0}, {0, 6, -1, 10, 5, 0, 0},
            {0, 0, -2, 10, 5, 0, 0}, {0, 0, 6, 10, 5, 0, 0},
        };
        for (int[] w : bounds) {
            dueLease(line, w, Check.BOUNDS);
        }
        int[][] arguments = {
            {0, 3, 3, 5, 5, 0, 0}, {0, 3, -1, 9, 5, 0, 0}, {0, 3, -1, 0, 5, 0, 0}, {0, 3, -1, 11, 5, 0, 0},
            {0, 3, 4, -1, 5, 0, 0}, {0, 3, 4, 11, 5, 0, 0},
            {0, 3, 4, 5, 0, 0, 0}, {0, 3, 4, 5, -1, 0, 0}, {0, 3, 4, 5, 10001, 0, 0},
            {0, 3, 4, 5, Integer.MAX_VALUE, 0, 0}, {0, 3, 4, 5, Integer.MIN_VALUE, 0, 0},
            {0, 3, 4, 5, 5, -1, 0}, {0, 3, 4, 5, 5, 1001, 0},
            {0, 3, 4, 5, 5, 0, -1}, {0, 3, 4, 5, 5, 0, 101},
        };
        for (int[] w : arguments) {
            dueLease(line, w, Check.ARGUMENT);
        }
        Check.due("no lease was made", -1, () -> line.ofMast(0, 5));
    }

    private static void orderOfExceptions() {
        Mastline line = withMast();
        dueLease(line, new int[] {1, 0, 0, 11, 0, -1, -1}, Check.BOUNDS);
        dueLease(line, new int[] {0, 6, 6, 11, 0, -1, -1}, Check.BOUNDS);
        line.lease(0, 0, -1, 10, 5, 0, 0);
        dueLease(line, new int[] {0, 0, 6, 10, 5, 0, 0}, Check.BOUNDS);
        dueLease(line, new int[] {0, 0, 0, 10, 5, 0, 0}, Check.ARGUMENT);
        dueLease(line, new int[] {0, 0, -1, 10, 5, 0, 101}, Check.ARGUMENT);
    }

    private static void throwingChangesNothing() {
        Mastline line = withMast();
        line.lease(0, 0, 1, 5, 5, 10, 2);
        line.pass(1);
        String before = Check.state(line);
        dueLease(line, new int[] {0, 2, 3, 1, 9, 99, 9}, Check.STATE);
        dueLease(line, new int[] {0, 2, 3, 1, 0, 99, 9}, Check.ARGUMENT);
        dueLease(line, new int[] {1, 2, 3, 1, 9, 99, 9}, Check.BOUNDS);
        Check.due("the state after leases that throw", before, () -> Check.state(line));
        line.pass(1);
        Check.due("the rents stay those of the first lease", "10 10 0 0", () -> line.paid(0) + " " + line.paid(1)
                + " " + line.paid(2) + " " + line.paid(3));
    }

    private static void dueLease(Mastline line, int[] w, Object want) {
        Check.dueAct("lease" + java.util.Arrays.toString(w), want,
                () -> line.lease(w[0], w[1], w[2], w[3], w[4], w[5], w[6]));
    }
}
