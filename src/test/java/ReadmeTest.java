/** The example of README.md, with the answers that it tells. */
public final class ReadmeTest {
    public static void main(String[] args) {
        Mastline line = new Mastline();
        Check.due("mast", 0, () -> line.mast(50, 10, 2, 1, 20, true));
        Check.dueAct("lease", "nothing", () -> line.lease(0, 0, 1, 3, 100, 10, 7));
        Check.due("phone", 0, () -> line.phone(45));
        Check.due("call", 0, () -> line.call(0));
        Check.due("strength", 0.5f, () -> line.strength(0));
        Check.due("sun", 0, () -> line.sun(1));
        Check.due("pass", 5, () -> line.pass(5));
        Check.due("move", -1, () -> line.move(0, 61));
        Check.due("ofPhone", 1, () -> line.ofPhone(0, 3));
        Check.due("ofMast", 10, () -> line.ofMast(0, 3));
        Check.due("trafficAnew", 5, () -> line.trafficAnew(0));
        Check.due("paid", 25, () -> line.paid(0));
        Check.due("holes", 79, line::holes);
        Check.end("ReadmeTest");
    }
}
