/** As much as there can be of everything, and calls beyond the 512th. */
public final class EdgesLimitsTest {
    private static final int[] VALUES = {Integer.MIN_VALUE, -10001, -100, -2, -1, 0, 1, 2, 3, 5, 6, 7, 8, 9, 10, 11, 12,
        40, 41, 50, 99, 100, 101, 1000, 1001, 9999, 10000, 10001, Integer.MAX_VALUE - 1, Integer.MAX_VALUE};
    private static final String THROWN = Check.BOUNDS + " " + Check.ARGUMENT + " " + Check.STATE;

    private static long seed = 1;

    public static void main(String[] args) {
        the512thCall();
        allHoursWithAllCalls();
        laterCalls();
        Check.end("EdgesLimitsTest");
    }

    private static int next(int bound) {
        seed = seed * 6364136223846793005L + 1442695040888963407L;
        return (int) ((seed >>> 33) % bound);
    }

    private static void the512thCall() {
        Check.sentence("An object is used for at most 512 calls after it has been made");
        Mastline line = new Mastline();
        line.mast(50, 10, 10, 0, 0, true);
        line.lease(0, 0, -1, 10, 10000, 1, 1);
        line.phone(50);
        for (int call = 4; call <= 510; call += 3) {
            int hour = call / 3;
            Check.due("call " + call, 0, () -> line.call(0));
            Check.due("call " + (call + 1), hour, () -> line.pass(1));
            Check.due("call " + (call + 2), 0, () -> line.end(0));
        }
        Check.due("call 511", 169, () -> line.ofMast(0, 4));
        Check.due("call 512", 169, () -> line.trafficAnew(0));
    }

    /** Twelve calls are handed over in each hour: the masts have units for themselves, but none for a call. */
    private static void allHoursWithAllCalls() {
        Check.sentence("up to 8 masts, up to 12 phones, to the hour 10000");
        Mastline line = new Mastline();
        for (int mast = 0; mast < 8; mast++) {
            line.mast(50, 40, 10, 2, 0, false);
            line.lease(mast, mast % 6, (mast + 1) % 6, 7, 10000, 1000, 100);
        }
        line.sun(1);
        Scene.calls(line, 50, 12);
        int traffic = 0;
        for (int times = 1; times <= 100; times++) {
            int hour = 100 * times;
            Check.due("the hour", hour, () -> line.pass(100));
        }
        for (int mast = 0; mast < 8; mast++) {
            int m = mast;
            traffic += line.ofMast(m, 4);
            Check.due("the log of mast " + m, line.ofMast(m, 4), () -> line.trafficAnew(m));
        }
        int all = traffic;
        Check.due("all hours of calls", 120000, () -> all);
        int paid = 0;
        for (int farmer = 0; farmer < 6; farmer++) {
            paid += line.paid(farmer);
        }
        int sum = paid;
        Check.due("all rents", 10000 * 8000 + 100 * 120000, () -> sum);
    }

    /** What they answer is free, but none may throw by itself, or not end. */
    private static void laterCalls() {
        Check.sentence("what later calls answer is free");
        for (int run = 0; run < 20; run++) {
            Mastline line = run % 2 == 0 ? new Mastline() : Scene.full();
            for (int call = 0; call < 6000; call++) {
                String answer = Check.told(() -> anyCall(line));
                Check.due("call " + call + ": " + answer, true, () -> !answer.startsWith("throws.")
                        || THROWN.contains(answer));
            }
        }
    }

    private static int any() {
        return next(3) == 0 ? VALUES[next(VALUES.length)] : next(13);
    }

    private static Object anyCall(Mastline line) {
        switch (next(14)) {
            case 0: return line.mast(any(), any(), any(), any(), any(), next(2) == 0);
            case 1: line.lease(any(), any(), next(2) == 0 ? -1 : any(), next(2) == 0 ? 10 : any(), any() * 50, any(), any());
                return "nothing";
            case 2: return line.sun(any());
            case 3: return line.phone(any());
            case 4: return line.call(any());
            case 5: return line.end(any());
            case 6: return line.move(any(), any());
            case 7: return line.pass(any());
            case 8: return line.ofMast(any(), any());
            case 9: return line.trafficAnew(any());
            case 10: return line.ofPhone(any(), any());
            case 11: return line.strength(any());
            case 12: return line.paid(any());
            default: return line.holes();
        }
    }
}
