/** Compares answers with those that are due, prints the wrong ones, and ends a test. */
final class Check {
    /** One call of the class. */
    interface Call {
        Object answer();
    }

    /** One call of the class that answers nothing. */
    interface Act {
        void run();
    }

    static final String BOUNDS = "throws.IndexOutOfBoundsException";
    static final String ARGUMENT = "throws.IllegalArgumentException";
    static final String STATE = "throws.IllegalStateException";

    private static int wrong = 0;

    private Check() {
    }

    static void due(String name, Object want, Call call) {
        String got = told(call);
        if (!got.equals(String.valueOf(want))) {
            wrong++;
            System.out.println(name + " answered " + got + ", due is " + want);
        }
    }

    static void dueAct(String name, Object want, Act act) {
        due(name, want, () -> {
            act.run();
            return "nothing";
        });
    }

    /** The answer as text, or the exact class of what was thrown. */
    static String told(Call call) {
        try {
            return String.valueOf(call.answer());
        } catch (Throwable thrown) {
            return "throws." + thrown.getClass().getSimpleName();
        }
    }

    /** Everything that can be asked of an object with so many masts and phones, without a change to it. */
    static String state(Mastline line, int masts, int phones) {
        StringBuilder all = new StringBuilder();
        for (int mast = 0; mast < masts; mast++) {
            all.append("mast ").append(mast).append(':');
            for (int what = 0; what < 6; what++) {
                all.append(' ').append(line.ofMast(mast, what));
            }
            all.append(" anew ").append(line.trafficAnew(mast)).append('\n');
        }
        for (int phone = 0; phone < phones; phone++) {
            all.append("phone ").append(phone).append(':');
            for (int what = 0; what < 5; what++) {
                all.append(' ').append(line.ofPhone(phone, what));
            }
            all.append(" strength ").append(line.strength(phone)).append('\n');
        }
        for (int farmer = 0; farmer < 6; farmer++) {
            all.append("paid ").append(line.paid(farmer)).append('\n');
        }
        int sun = line.sun(0);
        line.sun(sun);
        all.append("sun ").append(sun).append('\n');
        all.append("holes ").append(line.holes()).append('\n');
        all.append("mast beyond: ").append(told(() -> line.ofMast(masts, 0))).append('\n');
        all.append("phone beyond: ").append(told(() -> line.ofPhone(phones, 0))).append('\n');
        return all.toString();
    }

    static void end(String test) {
        System.out.println(test + ": " + (wrong == 0 ? "all answers are as due" : wrong + " answers are not as due"));
        if (wrong != 0) {
            System.exit(1);
        }
    }
}
