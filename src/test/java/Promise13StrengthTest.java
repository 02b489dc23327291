/** Promise 13: strength. */
public final class Promise13StrengthTest {
    public static void main(String[] args) {
        Mastline line = new Mastline();
        line.mast(50, 3, 2, 0, 0, true);
        line.lease(0, 0, -1, 10, 100, 0, 0);
        line.phone(50);
        line.phone(80);
        Check.due("no call", 0.0f, () -> line.strength(0));
        line.call(0);
        line.call(1);
        Check.due("at the mast", 1.0f, () -> line.strength(0));
        Check.due("a BLOCKED call", 0.0f, () -> line.strength(1));
        line.move(0, 49);
        Check.due("1 of 3, below", 0.6666666f, () -> line.strength(0));
        line.move(0, 51);
        Check.due("1 of 3, above", 0.6666666f, () -> line.strength(0));
        line.move(0, 52);
        Check.due("2 of 3", 0.3333333f, () -> line.strength(0));
        line.move(0, 53);
        Check.due("at its range", 0.0f, () -> line.strength(0));
        line.move(0, 54);
        Check.due("DROPPED", 0.0f, () -> line.strength(0));
        for (int wrong : new int[] {-1, 2, 12, Integer.MIN_VALUE, Integer.MAX_VALUE}) {
            Check.due("strength(" + wrong + ")", Check.BOUNDS, () -> line.strength(wrong));
        }
        afterHandoverAndEnd();
        allDistances();
        Check.end("Promise13StrengthTest");
    }

    private static void afterHandoverAndEnd() {
        Mastline line = new Mastline();
        line.mast(10, 10, 2, 0, 0, true);
        line.mast(40, 40, 2, 0, 0, true);
        line.lease(0, 0, -1, 10, 100, 0, 0);
        line.lease(1, 0, -1, 10, 100, 0, 0);
        line.phone(10);
        line.call(0);
        line.move(0, 30);
        Check.due("of the mast that carries it now", 0.75f, () -> line.strength(0));
        line.end(0);
        Check.due("ended", 0.0f, () -> line.strength(0));
    }

    private static void allDistances() {
        for (int range = 1; range <= 40; range++) {
            Mastline line = new Mastline();
            line.mast(40, range, 1, 0, 0, true);
            line.lease(0, 0, -1, 10, 100, 0, 0);
            line.phone(40);
            line.call(0);
            for (int distance = 0; distance <= range; distance++) {
                float want = 1.0f - (float) distance / (float) range;
                line.move(0, 40 + (distance % 2 == 0 ? distance : -distance));
                Check.due(distance + " of " + range, want, () -> line.strength(0));
            }
        }
    }
}
