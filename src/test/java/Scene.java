/** Objects in states that several tests begin with. */
final class Scene {
    static final int LAST_HOUR = 10000;

    private Scene() {
    }

    /** A mast on the grid, with a lease to the last hour that costs nothing; returns its number. */
    static int gridMast(Mastline line, int place, int range, int calls) {
        int mast = line.mast(place, range, calls, 0, 0, true);
        line.lease(mast, 0, -1, 10, LAST_HOUR, 0, 0);
        return mast;
    }

    /** A mast at place 50 that is not on the grid, with such a lease; returns its number. */
    static int sunMast(Mastline line, int panels, int battery) {
        int mast = line.mast(50, 10, 10, panels, battery, false);
        line.lease(mast, 0, -1, 10, LAST_HOUR, 0, 0);
        return mast;
    }

    /** So many new phones at a place. */
    static void phones(Mastline line, int place, int count) {
        for (int i = 0; i < count; i++) {
            line.phone(place);
        }
    }

    /** So many new phones at a place that call. */
    static void calls(Mastline line, int place, int count) {
        for (int i = 0; i < count; i++) {
            line.call(line.phone(place));
        }
    }

    static void pass(Mastline line, int hours) {
        for (int left = hours; left > 0; left -= 100) {
            line.pass(Math.min(left, 100));
        }
    }

    static Mastline at(int hour) {
        Mastline line = new Mastline();
        pass(line, hour);
        return line;
    }

    /**
     * Hour 3, sun 4. Masts: 0 with a battery, 1 on the grid and full, 2 without a lease, 3 that is OUT. Phones:
     * 0 and 1 that call, 2 that was handed over, 3 that was BLOCKED, 4 that was DROPPED, 5 that never called.
     */
    static Mastline busy() {
        Mastline line = new Mastline();
        line.mast(10, 10, 3, 5, 90, false);
        line.mast(25, 10, 2, 0, 0, true);
        line.mast(60, 5, 2, 2, 10, false);
        line.mast(70, 10, 2, 0, 4, false);
        line.lease(0, 0, 1, 3, 20, 10, 7);
        line.lease(1, 2, -1, 10, 100, 20, 3);
        line.phone(14);
        line.phone(30);
        line.phone(16);
        line.phone(40);
        line.phone(75);
        line.phone(99);
        line.sun(4);
        line.pass(2);
        line.call(0);
        line.call(1);
        line.call(2);
        line.move(2, 11);
        line.move(2, 22);
        line.call(3);
        line.lease(3, 5, 4, 6, 50, 9, 1);
        line.call(4);
        line.pass(1);
        return line;
    }

    /** Eight masts and twelve phones, of which eight call, one on each mast; hour 0. */
    static Mastline full() {
        Mastline line = new Mastline();
        for (int mast = 0; mast < 8; mast++) {
            gridMast(line, 12 * mast, 6, 1);
        }
        for (int phone = 0; phone < 12; phone++) {
            line.phone(8 * phone);
            line.call(phone);
        }
        return line;
    }

    /** As busy, but in the hour 9950. */
    static Mastline late() {
        Mastline line = busy();
        pass(line, 9947);
        line.call(5);
        line.lease(0, 3, -1, 10, 9990, 2, 3);
        line.lease(1, 4, 3, 1, LAST_HOUR, 7, 7);
        line.move(0, 14);
        line.call(0);
        return line;
    }

    /** What a run of further calls answers: two objects with one history answer it alike. */
    static String later(Mastline line) {
        StringBuilder all = new StringBuilder();
        told(all, () -> line.mast(90, 20, 4, 1, 2, true));
        told(all, () -> line.phone(33));
        for (int mast = 0; mast < 8; mast++) {
            int m = mast;
            told(all, () -> {
                line.lease(m, m % 6, (m + 1) % 6, m, LAST_HOUR - m, 10 + m, m);
                return "nothing";
            });
        }
        for (int phone = 0; phone < 12; phone++) {
            int p = phone;
            told(all, () -> line.call(p));
            if (p % 3 == 0) {
                told(all, () -> line.pass(1));
            }
        }
        all.append(Check.state(line));
        for (int phone = 0; phone < 12; phone++) {
            int p = phone;
            told(all, () -> line.move(p, 9 * p));
            told(all, () -> p % 4 == 0 ? line.end(p) : line.pass(p));
        }
        all.append(Check.state(line));
        told(all, () -> line.sun(10));
        told(all, () -> line.pass(100));
        return all.append(Check.state(line)).toString();
    }

    private static void told(StringBuilder all, Check.Call call) {
        all.append(Check.told(call)).append('\n');
    }
}
