/** Promise 8: move. */
public final class Promise08MoveTest {
    public static void main(String[] args) {
        withoutACall();
        withACall();
        nearestThenLowestThatIsFree();
        wrongInputs();
        Check.end("Promise08MoveTest");
    }

    private static void onMast(Mastline line, int place, int range, int calls) {
        int mast = line.mast(place, range, calls, 0, 0, true);
        line.lease(mast, 0, -1, 10, 100, 0, 0);
    }

    private static void withoutACall() {
        Mastline line = new Mastline();
        onMast(line, 50, 10, 1);
        line.phone(50);
        Check.due("no call", -1, () -> line.move(0, 99));
        Check.due("its place", 99, () -> line.ofPhone(0, 0));
        Check.due("no call either", -1, () -> line.move(0, 0));
        Check.due("its place", 0, () -> line.ofPhone(0, 0));
        Check.due("not DROPPED", 0, () -> line.ofPhone(0, 3));
        Check.due("not BLOCKED", 0, () -> line.ofPhone(0, 2));
    }

    private static void withACall() {
        Mastline line = new Mastline();
        onMast(line, 20, 10, 2);
        onMast(line, 35, 10, 2);
        line.phone(20);
        line.call(0);
        Check.due("the same place", 0, () -> line.move(0, 20));
        Check.due("still covered, though another is nearer", 0, () -> line.move(0, 30));
        Check.due("not handed over", 0, () -> line.ofPhone(0, 4));
        Check.due("handed over", 1, () -> line.move(0, 31));
        Check.due("once", 1, () -> line.ofPhone(0, 4));
        Check.due("the first carries none", 0, () -> line.ofMast(0, 1));
        Check.due("the second carries it", 1, () -> line.ofMast(1, 1));
        Check.due("handed over back", 0, () -> line.move(0, 24));
        Check.due("twice", 2, () -> line.ofPhone(0, 4));
        Check.due("DROPPED", -1, () -> line.move(0, 46));
        Check.due("once DROPPED", 1, () -> line.ofPhone(0, 3));
        Check.due("a dropped one is not handed over", 2, () -> line.ofPhone(0, 4));
        Check.due("nor BLOCKED", 0, () -> line.ofPhone(0, 2));
        Check.due("its place", 46, () -> line.ofPhone(0, 0));
        Check.due("it carries none", 0, () -> line.ofMast(0, 1));
        Check.due("back, without a call", -1, () -> line.move(0, 20));
    }

    private static void nearestThenLowestThatIsFree() {
        Mastline line = new Mastline();
        onMast(line, 10, 5, 4);
        onMast(line, 36, 40, 1);
        onMast(line, 44, 40, 1);
        onMast(line, 39, 40, 1);
        line.mast(40, 40, 1, 0, 0, true);
        for (int phone = 0; phone < 4; phone++) {
            line.phone(10);
            line.call(phone);
        }
        Check.due("the nearest that is ON", 3, () -> line.move(0, 40));
        Check.due("of two, the lowest", 1, () -> line.move(1, 40));
        Check.due("the one that is left", 2, () -> line.move(2, 40));
        Check.due("none is left", -1, () -> line.move(3, 40));
    }

    private static void wrongInputs() {
        Mastline line = new Mastline();
        onMast(line, 20, 10, 2);
        line.phone(20);
        line.phone(90);
        line.call(0);
        String before = Check.state(line);
        for (int wrong : new int[] {-1, 2, 12, Integer.MIN_VALUE, Integer.MAX_VALUE}) {
            Check.due("move(" + wrong + ", 20)", Check.BOUNDS, () -> line.move(wrong, 20));
            Check.due("move(" + wrong + ", 100)", Check.BOUNDS, () -> line.move(wrong, 100));
        }
        for (int wrong : new int[] {-1, 100, Integer.MIN_VALUE, Integer.MAX_VALUE}) {
            Check.due("move(0, " + wrong + ")", Check.ARGUMENT, () -> line.move(0, wrong));
        }
        Check.due("the state after moves that throw", before, () -> Check.state(line));
    }
}
