/** Promise 15: holes. */
public final class Promise15HolesTest {
    public static void main(String[] args) {
        Mastline line = new Mastline();
        line.mast(10, 3, 1, 0, 0, true);
        line.mast(14, 3, 1, 0, 0, false);
        line.mast(0, 2, 1, 0, 0, true);
        line.mast(99, 2, 1, 0, 0, true);
        Check.due("no lease", 100, line::holes);
        line.lease(0, 0, -1, 10, 100, 0, 0);
        Check.due("7 to 13", 93, line::holes);
        line.lease(1, 0, -1, 10, 100, 0, 0);
        Check.due("7 to 17, of which some are covered twice", 89, line::holes);
        line.lease(2, 0, -1, 10, 2, 0, 0);
        Check.due("0 to 2 too", 86, line::holes);
        line.lease(3, 0, -1, 10, 100, 0, 0);
        Check.due("97 to 99 too", 83, line::holes);
        line.pass(1);
        Check.due("14 to 17 is OUT", 87, line::holes);
        line.pass(1);
        Check.due("0 to 2 has no lease", 90, line::holes);
        line.phone(10);
        line.call(0);
        Check.due("a full mast covers its places", 90, line::holes);
        noHoles();
        Check.end("Promise15HolesTest");
    }

    private static void noHoles() {
        Mastline line = new Mastline();
        line.mast(39, 40, 1, 0, 0, true);
        line.mast(90, 11, 1, 0, 0, true);
        line.lease(0, 0, -1, 10, 1, 0, 0);
        Check.due("0 to 79", 20, line::holes);
        line.lease(1, 0, -1, 10, 100, 0, 0);
        Check.due("all places", 0, line::holes);
        line.pass(1);
        Check.due("0 to 78", 79, line::holes);
    }
}
