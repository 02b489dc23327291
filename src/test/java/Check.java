/** Compares answers with those that are due, prints the wrong ones, and ends a test. */
final class Check {
    /** One call of the class. */
    interface Call {
        Object answer();
    }

    /** One call of the class that answers nothing. */
    interface Act {
        void run();
    }

    static final String BOUNDS = "throws.IndexOutOfBoundsException";
    static final String ARGUMENT = "throws.IllegalArgumentException";
    static final String STATE = "throws.IllegalStateException";

    private static int wrong = 0;
    private static int sentences = 0;
    private static String sentence = "";

    private Check() {
    }

    /** What follows tests this sentence of the document. */
    static void sentence(String text) {
        sentences++;
        sentence = "'" + text + "': ";
    }

    static void due(String name, Object want, Call call) {
        String got = told(call);
        if (!got.equals(String.valueOf(want))) {
            wrong++;
            System.out.println(sentence + name + " answered " + got + ", due is " + want);
        }
    }

    static void dueAct(String name, Object want, Act act) {
        due(name, want, () -> {
            act.run();
            return "nothing";
        });
    }

    /** The answer as text, or the exact class of what was thrown. */
    static String told(Call call) {
        try {
            return String.valueOf(call.answer());
        } catch (Throwable thrown) {
            return "throws." + thrown.getClass().getSimpleName();
        }
    }

    /** ON, carried, units, of the grid, traffic, end of the lease. */
    static String mast(Mastline line, int mast) {
        return line.ofMast(mast, 0) + " " + line.ofMast(mast, 1) + " " + line.ofMast(mast, 2) + " "
                + line.ofMast(mast, 3) + " " + line.ofMast(mast, 4) + " " + line.ofMast(mast, 5);
    }

    /** Place, mast, BLOCKED, DROPPED, handed over. */
    static String phone(Mastline line, int phone) {
        return line.ofPhone(phone, 0) + " " + line.ofPhone(phone, 1) + " " + line.ofPhone(phone, 2) + " "
                + line.ofPhone(phone, 3) + " " + line.ofPhone(phone, 4);
    }

    /** What the farmers 0 to 5 were paid. */
    static String paid(Mastline line) {
        return line.paid(0) + " " + line.paid(1) + " " + line.paid(2) + " " + line.paid(3) + " " + line.paid(4)
                + " " + line.paid(5);
    }

    /** Everything that can be asked of an object without a change to it. */
    static String state(Mastline line) {
        StringBuilder all = new StringBuilder();
        for (int mast = 0; mast <= 8; mast++) {
            int m = mast;
            all.append("mast ").append(m).append(": ").append(told(() -> mast(line, m)));
            all.append(" anew ").append(told(() -> line.trafficAnew(m))).append('\n');
        }
        for (int phone = 0; phone <= 12; phone++) {
            int p = phone;
            all.append("phone ").append(p).append(": ").append(told(() -> phone(line, p)));
            all.append(" strength ").append(told(() -> line.strength(p))).append('\n');
        }
        all.append("paid ").append(told(() -> paid(line))).append('\n');
        int sun = line.sun(0);
        line.sun(sun);
        all.append("sun ").append(sun).append('\n');
        all.append("holes ").append(line.holes()).append('\n');
        return all.toString();
    }

    static void end(String test) {
        String of = sentences == 0 ? "" : " of " + sentences + " sentences";
        System.out.println(test + ": " + (wrong == 0 ? "all answers" + of + " are as due"
                : wrong + " answers are not as due"));
        if (wrong != 0) {
            System.exit(1);
        }
    }
}
