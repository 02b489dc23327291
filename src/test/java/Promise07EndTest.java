/** Promise 7: end. */
public final class Promise07EndTest {
    public static void main(String[] args) {
        Mastline line = new Mastline();
        line.mast(10, 10, 1, 0, 0, true);
        line.mast(30, 10, 1, 0, 0, true);
        line.lease(0, 0, -1, 10, 100, 0, 0);
        line.lease(1, 0, -1, 10, 3, 0, 0);
        line.phone(10);
        line.phone(30);
        line.phone(90);
        Check.due("no call yet", Check.STATE, () -> line.end(0));
        line.call(0);
        line.call(1);
        line.call(2);
        Check.due("the mast that carried it", 1, () -> line.end(1));
        Check.due("it carries none", 0, () -> line.ofMast(1, 1));
        Check.due("the other still carries one", 1, () -> line.ofMast(0, 1));
        Check.due("no call is left", Check.STATE, () -> line.end(1));
        Check.due("no mast carries it", -1, () -> line.ofPhone(1, 1));
        Check.due("an end is not DROPPED", 0, () -> line.ofPhone(1, 3));
        Check.due("a BLOCKED call", Check.STATE, () -> line.end(2));
        String before = Check.state(line);
        for (int wrong : new int[] {-1, 3, 12, Integer.MIN_VALUE, Integer.MAX_VALUE}) {
            Check.due("end(" + wrong + ")", Check.BOUNDS, () -> line.end(wrong));
        }
        Check.due("end of no call", Check.STATE, () -> line.end(1));
        Check.due("the state after ends that throw", before, () -> Check.state(line));
        Check.due("it may call again", 1, () -> line.call(1));
        line.pass(3);
        Check.due("a DROPPED call", Check.STATE, () -> line.end(1));
        line.move(0, 15);
        Check.due("the mast 0", 0, () -> line.end(0));
        Check.due("its traffic", 3, () -> line.ofMast(0, 4));
        Check.end("Promise07EndTest");
    }
}
