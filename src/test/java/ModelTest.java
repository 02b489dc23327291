import java.util.ArrayList;
import java.util.List;

/**
 * Runs of calls with fixed seeds: each answer is compared with that of a second writing of the document,
 * which keeps rows of numbers and, as its log, who carried each call in each hour.
 */
public final class ModelTest {
    private static final int RUNS = 400;
    private static final int CALLS = 512;
    private static final String[] NAMES = {"mast", "lease", "sun", "phone", "call", "end", "move", "pass",
        "ofMast", "trafficAnew", "ofPhone", "strength", "paid", "holes"};

    private static long seed;

    public static void main(String[] args) {
        int[] answered = new int[NAMES.length];
        int[] threw = new int[NAMES.length];
        for (int run = 1; run <= RUNS; run++) {
            seed = run;
            int hardness = run % 4;
            Mastline line = new Mastline();
            Model model = new Model();
            for (int call = 0; call < CALLS; call++) {
                int[] c = nextCall(call, hardness, model);
                String want = model.answer(c);
                Check.due("run " + run + ", call " + call + ": " + NAMES[c[0]] + told(c), want, () -> answer(line, c));
                if (want.startsWith("throws.")) {
                    threw[c[0]]++;
                } else {
                    answered[c[0]]++;
                }
            }
        }
        for (int name = 0; name < NAMES.length; name++) {
            int n = name;
            Check.due(NAMES[n] + " was answered", true, () -> answered[n] > RUNS);
            Check.due(NAMES[n] + " threw", n != 13, () -> threw[n] > RUNS / 4);
        }
        Check.end("ModelTest");
    }

    private static String told(int[] c) {
        List<Integer> arguments = new ArrayList<>();
        for (int i = 1; i < c.length; i++) {
            arguments.add(c[i]);
        }
        return arguments.toString();
    }

    private static int next(int least, int most) {
        seed = seed * 6364136223846793005L + 1442695040888963407L;
        return least + (int) ((seed >>> 33) % (most - least + 1));
    }

    /** Mostly within the range, sometimes just beyond it. */
    private static int about(int least, int most) {
        return next(0, 29) == 0 ? (next(0, 1) == 0 ? least - 1 : most + 1) : next(least, most);
    }

    private static int[] nextCall(int call, int hardness, Model model) {
        int kind = next(0, 99);
        int masts = Math.max(model.masts.size() - 1, 0);
        int phones = Math.max(model.phones.size() - 1, 0);
        if (call < 12 && kind < 80) {
            kind = call % 3 == 0 ? 5 : call % 3 == 1 ? 10 : 30;
        }
        if (kind < 6) {
            return new int[] {0, about(0, 99), hardness < 2 ? about(20, 40) : about(1, 40), about(1, hardness == 1 ? 2 : 10),
                about(0, hardness == 2 ? 2 : 10), about(0, hardness == 3 ? 6 : 100), next(0, 3) == 0 ? 1 : 0};
        } else if (kind < 20) {
            int other = about(-1, 5);
            return new int[] {1, about(0, masts), about(0, 5), other, other == -1 && next(0, 9) > 0 ? 10 : about(0, 10),
                model.hour + (next(0, 3) == 0 ? about(1, 10000) : about(1, 60)), about(0, 1000), about(0, 100)};
        } else if (kind < 25) {
            return new int[] {2, hardness == 2 ? about(0, 3) : about(0, 10)};
        } else if (kind < 33) {
            return new int[] {3, about(0, 99)};
        } else if (kind < 48) {
            return new int[] {4, about(0, phones)};
        } else if (kind < 52) {
            return new int[] {5, about(0, phones)};
        } else if (kind < 64) {
            return new int[] {6, about(0, phones), about(0, 99)};
        } else if (kind < 76) {
            return new int[] {7, hardness == 0 ? about(1, 100) : next(0, 9) == 0 ? about(1, 100) : next(1, 4)};
        } else if (kind < 83) {
            return new int[] {8, about(0, masts), about(0, 5)};
        } else if (kind < 88) {
            return new int[] {9, about(0, masts)};
        } else if (kind < 93) {
            return new int[] {10, about(0, phones), about(0, 4)};
        } else if (kind < 96) {
            return new int[] {11, about(0, phones)};
        } else if (kind < 98) {
            return new int[] {12, about(0, 5)};
        }
        return new int[] {13};
    }

    private static Object answer(Mastline line, int[] c) {
        switch (c[0]) {
            case 0: return line.mast(c[1], c[2], c[3], c[4], c[5], c[6] == 1);
            case 1: line.lease(c[1], c[2], c[3], c[4], c[5], c[6], c[7]); return "nothing";
            case 2: return line.sun(c[1]);
            case 3: return line.phone(c[1]);
            case 4: return line.call(c[1]);
            case 5: return line.end(c[1]);
            case 6: return line.move(c[1], c[2]);
            case 7: return line.pass(c[1]);
            case 8: return line.ofMast(c[1], c[2]);
            case 9: return line.trafficAnew(c[1]);
            case 10: return line.ofPhone(c[1], c[2]);
            case 11: return line.strength(c[1]);
            case 12: return line.paid(c[1]);
            default: return line.holes();
        }
    }

    /** The document once more. */
    private static final class Model {
        /** place, range, calls, panels, battery, grid, units, of the grid, traffic, OUT. */
        final List<int[]> masts = new ArrayList<>();
        /** farmer, other, tenths, until, rent, by call; null without a lease. */
        final List<int[]> leases = new ArrayList<>();
        /** place, mast, BLOCKED, DROPPED, handed over. */
        final List<int[]> phones = new ArrayList<>();
        /** The masts that carried a call in an hour, one for each call and hour. */
        final List<Integer> log = new ArrayList<>();
        final long[] paid = new long[6];
        int sun = 0;
        int hour = 0;

        private static boolean off(int x, int least, int most) {
            return x < least || x > most;
        }

        private boolean noMast(int mast) {
            return off(mast, 0, masts.size() - 1);
        }

        private boolean noPhone(int phone) {
            return off(phone, 0, phones.size() - 1);
        }

        private boolean on(int mast) {
            return leases.get(mast) != null && masts.get(mast)[9] == 0;
        }

        private int load(int mast) {
            int load = 0;
            for (int[] phone : phones) {
                load += phone[1] == mast ? 1 : 0;
            }
            return load;
        }

        private boolean covers(int mast, int place) {
            int[] m = masts.get(mast);
            return place >= m[0] - m[1] && place <= m[0] + m[1];
        }

        private int search(int place) {
            for (int distance = 0; distance < 100; distance++) {
                for (int mast = 0; mast < masts.size(); mast++) {
                    if (Math.abs(masts.get(mast)[0] - place) == distance && on(mast) && covers(mast, place)
                            && load(mast) < masts.get(mast)[2]) {
                        return mast;
                    }
                }
            }
            return -1;
        }

        private void handOver(int[] phone) {
            phone[1] = -1;
            phone[1] = search(phone[0]);
            phone[phone[1] < 0 ? 3 : 4]++;
        }

        private void goHour() {
            for (int[] phone : phones) {
                if (phone[1] >= 0) {
                    masts.get(phone[1])[8]++;
                    log.add(phone[1]);
                }
            }
            for (int mast = 0; mast < masts.size(); mast++) {
                int[] m = masts.get(mast);
                int[] lease = leases.get(mast);
                m[9] = 0;
                if (lease == null) {
                    continue;
                }
                int rents = lease[4] + load(mast) * lease[5];
                paid[lease[0]] += rents * lease[2] / 10;
                if (lease[1] >= 0) {
                    paid[lease[1]] += rents - rents * lease[2] / 10;
                }
                int left = m[6] + m[3] * sun - 2 - load(mast);
                if (left < 0 && m[5] == 1) {
                    m[7] -= left;
                    left = 0;
                } else if (left < 0) {
                    m[9] = 1;
                    left += 2 + load(mast);
                }
                m[6] = left > m[4] ? m[4] : left;
            }
            hour++;
            for (int mast = 0; mast < masts.size(); mast++) {
                if (leases.get(mast) != null && leases.get(mast)[3] == hour) {
                    leases.set(mast, null);
                }
            }
            for (int[] phone : phones) {
                if (phone[1] >= 0 && !on(phone[1])) {
                    handOver(phone);
                }
            }
        }

        String answer(int[] c) {
            switch (c[0]) {
                case 0: return mast(c);
                case 1: return lease(c);
                case 2: return sun(c[1]);
                case 3: return phone(c[1]);
                case 4: return call(c[1]);
                case 5: return end(c[1]);
                case 6: return move(c[1], c[2]);
                case 7: return pass(c[1]);
                case 8: return ofMast(c[1], c[2]);
                case 9: return noMast(c[1]) ? Check.BOUNDS : "" + log.stream().filter(m -> m == c[1]).count();
                case 10: return noPhone(c[1]) ? Check.BOUNDS : off(c[2], 0, 4) ? Check.ARGUMENT : "" + phones.get(c[1])[c[2]];
                case 11: return strength(c[1]);
                case 12: return off(c[1], 0, 5) ? Check.BOUNDS : "" + paid[c[1]];
                default: return holes();
            }
        }

        private String mast(int[] c) {
            if (off(c[1], 0, 99) || off(c[2], 1, 40) || off(c[3], 1, 10) || off(c[4], 0, 10) || off(c[5], 0, 100)) {
                return Check.ARGUMENT;
            }
            if (masts.size() == 8) {
                return Check.STATE;
            }
            masts.add(new int[] {c[1], c[2], c[3], c[4], c[5], c[6], 0, 0, 0, 0});
            leases.add(null);
            return "" + (masts.size() - 1);
        }

        private String lease(int[] c) {
            if (noMast(c[1]) || off(c[2], 0, 5) || off(c[3], -1, 5)) {
                return Check.BOUNDS;
            }
            if (c[2] == c[3] || off(c[4], 0, 10) || c[3] == -1 && c[4] != 10 || c[5] <= hour || c[5] > 10000
                    || off(c[6], 0, 1000) || off(c[7], 0, 100)) {
                return Check.ARGUMENT;
            }
            if (leases.get(c[1]) != null) {
                return Check.STATE;
            }
            leases.set(c[1], new int[] {c[2], c[3], c[4], c[5], c[6], c[7]});
            return "nothing";
        }

        private String sun(int now) {
            if (off(now, 0, 10)) {
                return Check.ARGUMENT;
            }
            String before = "" + sun;
            sun = now;
            return before;
        }

        private String phone(int place) {
            if (off(place, 0, 99)) {
                return Check.ARGUMENT;
            }
            if (phones.size() == 12) {
                return Check.STATE;
            }
            phones.add(new int[] {place, -1, 0, 0, 0});
            return "" + (phones.size() - 1);
        }

        private String call(int phone) {
            if (noPhone(phone)) {
                return Check.BOUNDS;
            }
            int[] p = phones.get(phone);
            if (p[1] >= 0) {
                return Check.STATE;
            }
            p[1] = search(p[0]);
            p[2] += p[1] < 0 ? 1 : 0;
            return "" + p[1];
        }

        private String end(int phone) {
            if (noPhone(phone)) {
                return Check.BOUNDS;
            }
            int[] p = phones.get(phone);
            if (p[1] < 0) {
                return Check.STATE;
            }
            String mast = "" + p[1];
            p[1] = -1;
            return mast;
        }

        private String move(int phone, int place) {
            if (noPhone(phone)) {
                return Check.BOUNDS;
            }
            if (off(place, 0, 99)) {
                return Check.ARGUMENT;
            }
            int[] p = phones.get(phone);
            p[0] = place;
            if (p[1] >= 0 && !covers(p[1], place)) {
                handOver(p);
            }
            return "" + p[1];
        }

        private String pass(int hours) {
            if (off(hours, 1, 100)) {
                return Check.ARGUMENT;
            }
            if (hour + hours > 10000) {
                return Check.STATE;
            }
            for (int i = 0; i < hours; i++) {
                goHour();
            }
            return "" + hour;
        }

        private String ofMast(int mast, int what) {
            if (noMast(mast)) {
                return Check.BOUNDS;
            }
            int[] m = masts.get(mast);
            switch (what) {
                case 0: return on(mast) ? "1" : "0";
                case 1: return "" + load(mast);
                case 2: return "" + m[6];
                case 3: return "" + m[7];
                case 4: return "" + m[8];
                case 5: return leases.get(mast) == null ? "-1" : "" + leases.get(mast)[3];
                default: return Check.ARGUMENT;
            }
        }

        private String strength(int phone) {
            if (noPhone(phone)) {
                return Check.BOUNDS;
            }
            int[] p = phones.get(phone);
            if (p[1] < 0) {
                return "0.0";
            }
            int[] m = masts.get(p[1]);
            float part = (float) Math.abs(p[0] - m[0]) / (float) m[1];
            return "" + (1.0f - part);
        }

        private String holes() {
            int holes = 100;
            for (int place = 0; place < 100; place++) {
                for (int mast = 0; mast < masts.size(); mast++) {
                    if (on(mast) && covers(mast, place)) {
                        holes--;
                        break;
                    }
                }
            }
            return "" + holes;
        }
    }
}
