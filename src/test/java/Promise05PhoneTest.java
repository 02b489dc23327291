/** Promise 5: phone. */
public final class Promise05PhoneTest {
    public static void main(String[] args) {
        Mastline line = new Mastline();
        for (int wrong : new int[] {-1, 100, Integer.MIN_VALUE, Integer.MAX_VALUE}) {
            Check.due("phone(" + wrong + ")", Check.ARGUMENT, () -> line.phone(wrong));
        }
        Check.due("none was told", Check.BOUNDS, () -> line.ofPhone(0, 0));
        for (int number = 0; number < 12; number++) {
            int n = number;
            int place = n * 9;
            Check.due("phone " + n, n, () -> line.phone(place));
            Check.due("its place", place, () -> line.ofPhone(n, 0));
            Check.due("it does not call", -1, () -> line.ofPhone(n, 1));
            Check.due("none BLOCKED", 0, () -> line.ofPhone(n, 2));
            Check.due("none DROPPED", 0, () -> line.ofPhone(n, 3));
            Check.due("none handed over", 0, () -> line.ofPhone(n, 4));
        }
        Check.due("the last place", 99, () -> line.ofPhone(11, 0));
        Check.due("the thirteenth phone", Check.STATE, () -> line.phone(0));
        Check.due("the thirteenth phone, out of range too", Check.ARGUMENT, () -> line.phone(100));
        Check.due("no thirteenth phone", Check.BOUNDS, () -> line.ofPhone(12, 0));
        Check.end("Promise05PhoneTest");
    }
}
