/**
 * Each throws line by each of its causes, alone and together with the others; and what a call that throws
 * leaves behind: an object with which it was done answers all later calls like one with which it was not.
 */
public final class EdgesThrowsTest {
    private interface Made {
        Mastline make();
    }

    private interface Act {
        void on(Mastline line);
    }

    private static final int LOW = Integer.MIN_VALUE;
    private static final int HIGH = Integer.MAX_VALUE;

    public static void main(String[] args) {
        ofMast();
        ofLease();
        ofSunAndPhone();
        ofCallAndEnd();
        ofMove();
        ofPass();
        ofQuestions();
        Check.end("EdgesThrowsTest");
    }

    private static void thrown(String name, String want, Made made, Act act) {
        Mastline line = made.make();
        Mastline twin = made.make();
        Check.dueAct(name, want, () -> act.on(line));
        Check.dueAct(name + ", once more", want, () -> act.on(line));
        String state = Check.state(twin);
        Check.due(name + ": the state", state, () -> Check.state(line));
        String later = Scene.later(twin);
        Check.due(name + ": later answers", later, () -> Scene.later(line));
    }

    private static void mast(String name, String want, Made made, int... a) {
        thrown(name, want, made, l -> l.mast(a[0], a[1], a[2], a[3], a[4], true));
        thrown(name + ", not on the grid", want, made, l -> l.mast(a[0], a[1], a[2], a[3], a[4], false));
    }

    private static void ofMast() {
        Check.sentence("mast: IllegalArgumentException if place, range, calls, panels or battery is out of range");
        eachMastArgument("", Scene::busy);
        eachMastArgument("the first mast, ", Mastline::new);
        Check.sentence("mast: if both apply, IllegalArgumentException is first");
        eachMastArgument("the ninth mast, ", Scene::full);
        Check.sentence("mast: IllegalStateException if there are 8");
        mast("the ninth", Check.STATE, Scene::full, 90, 5, 2, 3, 4);
        mast("the ninth, all least", Check.STATE, Scene::full, 0, 1, 1, 0, 0);
        mast("the ninth, all most", Check.STATE, Scene::full, 99, 40, 10, 10, 100);
    }

    private static void eachMastArgument(String which, Made made) {
        int[][] wrong = {{-1, 100, LOW, HIGH}, {0, 41, LOW, HIGH}, {0, 11, LOW, HIGH}, {-1, 11, LOW, HIGH},
            {-1, 101, LOW, HIGH}};
        for (int argument = 0; argument < wrong.length; argument++) {
            for (int value : wrong[argument]) {
                int[] a = {90, 5, 2, 3, 4};
                a[argument] = value;
                mast(which + "argument " + argument + " is " + value, Check.ARGUMENT, made, a);
            }
        }
    }

    private static void lease(String name, String want, Made made, int... a) {
        thrown(name, want, made, l -> l.lease(a[0], a[1], a[2], a[3], a[4], a[5], a[6]));
    }

    /** In the scene busy, mast 2 has no lease, and the hour is 3. */
    private static void ofLease() {
        Check.sentence("lease: IndexOutOfBoundsException if there is no such mast or farmer, of either");
        for (int mast : new int[] {-1, 4, 7, 8, LOW, HIGH}) {
            lease("mast " + mast, Check.BOUNDS, Scene::busy, mast, 0, 1, 5, 9, 1, 1);
        }
        for (int farmer : new int[] {-1, -2, 6, LOW, HIGH}) {
            lease("farmer " + farmer, Check.BOUNDS, Scene::busy, 2, farmer, 1, 5, 9, 1, 1);
            lease("farmer " + farmer + " alone", Check.BOUNDS, Scene::busy, 2, farmer, -1, 10, 9, 1, 1);
        }
        for (int other : new int[] {-2, 6, LOW, HIGH}) {
            lease("other " + other, Check.BOUNDS, Scene::busy, 2, 0, other, 5, 9, 1, 1);
            lease("other " + other + ", who has nothing", Check.BOUNDS, Scene::busy, 2, 0, other, 10, 9, 1, 1);
        }
        Check.sentence("lease: IllegalArgumentException if both farmers are one, or tenths, until, rent or byCall is"
                + " out of range");
        int[][] arguments = {
            {2, 0, 0, 5, 9, 1, 1}, {2, 5, 5, 10, 9, 1, 1}, {2, 3, 3, 0, 9, 1, 1},
            {2, 0, 1, -1, 9, 1, 1}, {2, 0, 1, 11, 9, 1, 1}, {2, 0, 1, LOW, 9, 1, 1}, {2, 0, 1, HIGH, 9, 1, 1},
            {2, 0, -1, 0, 9, 1, 1}, {2, 0, -1, 9, 9, 1, 1}, {2, 0, -1, 11, 9, 1, 1}, {2, 0, -1, -1, 9, 1, 1},
            {2, 0, 1, 5, 3, 1, 1}, {2, 0, 1, 5, 2, 1, 1}, {2, 0, 1, 5, 0, 1, 1}, {2, 0, 1, 5, -1, 1, 1},
            {2, 0, 1, 5, 10001, 1, 1}, {2, 0, 1, 5, LOW, 1, 1}, {2, 0, 1, 5, HIGH, 1, 1},
            {2, 0, 1, 5, 9, -1, 1}, {2, 0, 1, 5, 9, 1001, 1}, {2, 0, 1, 5, 9, LOW, 1}, {2, 0, 1, 5, 9, HIGH, 1},
            {2, 0, 1, 5, 9, 1, -1}, {2, 0, 1, 5, 9, 1, 101}, {2, 0, 1, 5, 9, 1, LOW}, {2, 0, 1, 5, 9, 1, HIGH},
        };
        for (int[] a : arguments) {
            lease("lease" + java.util.Arrays.toString(a), Check.ARGUMENT, Scene::busy, a);
        }
        lease("until the hour of now, the last one", Check.ARGUMENT, () -> {
            Mastline line = Scene.late();
            line.pass(50);
            return line;
        }, 2, 0, 1, 5, 10000, 1, 1);
        Check.sentence("lease: IllegalStateException if the mast has a lease");
        lease("of one that is ON", Check.STATE, Scene::busy, 0, 0, 1, 5, 9, 1, 1);
        lease("of one that is OUT", Check.STATE, Scene::busy, 3, 0, 1, 5, 9, 1, 1);
        lease("the same lease", Check.STATE, Scene::busy, 1, 2, -1, 10, 100, 20, 3);
        orderOfLease(arguments);
    }

    private static void orderOfLease(int[][] arguments) {
        Check.sentence("lease: if several apply, IndexOutOfBoundsException is first");
        for (int[] wrong : arguments) {
            int[] a = wrong.clone();
            a[0] = 4;
            lease("no such mast" + java.util.Arrays.toString(a), Check.BOUNDS, Scene::busy, a);
        }
        for (int mast : new int[] {0, 2}) {
            lease("no such farmers, who are one", Check.BOUNDS, Scene::busy, mast, 6, 6, 5, 9, 1, 1);
            lease("NONE and NONE", Check.BOUNDS, Scene::busy, mast, -1, -1, 10, 9, 1, 1);
            lease("no such farmer, all else wrong", Check.BOUNDS, Scene::busy, mast, 6, 1, 11, 0, -1, -1);
            lease("no such other, all else wrong", Check.BOUNDS, Scene::busy, mast, 1, 6, 11, 0, -1, -1);
        }
        lease("no such farmer, and a lease", Check.BOUNDS, Scene::busy, 0, 6, 1, 5, 9, 1, 1);
        lease("no such other, and a lease", Check.BOUNDS, Scene::busy, 0, 1, -2, 5, 9, 1, 1);
        Check.sentence("lease: of the two others, IllegalArgumentException is first");
        for (int[] wrong : arguments) {
            int[] a = wrong.clone();
            a[0] = 0;
            lease("a lease" + java.util.Arrays.toString(a), Check.ARGUMENT, Scene::busy, a);
        }
    }

    private static void ofSunAndPhone() {
        Check.sentence("sun: IllegalArgumentException if sun is out of range");
        for (int sun : new int[] {-1, 11, LOW, HIGH}) {
            thrown("sun " + sun, Check.ARGUMENT, Scene::busy, l -> l.sun(sun));
        }
        Check.sentence("phone: IllegalArgumentException if place is out of range");
        for (int place : new int[] {-1, 100, LOW, HIGH}) {
            thrown("place " + place, Check.ARGUMENT, Scene::busy, l -> l.phone(place));
            thrown("place " + place + " of the first", Check.ARGUMENT, Mastline::new, l -> l.phone(place));
        }
        Check.sentence("phone: IllegalStateException if there are 12");
        for (int place : new int[] {0, 50, 99}) {
            thrown("place " + place, Check.STATE, Scene::full, l -> l.phone(place));
        }
        Check.sentence("phone: if both apply, IllegalArgumentException is first");
        for (int place : new int[] {-1, 100, LOW, HIGH}) {
            thrown("place " + place, Check.ARGUMENT, Scene::full, l -> l.phone(place));
        }
    }

    /** In the scene busy, the phones 0 to 2 are calling, 3 was BLOCKED, 4 DROPPED, and 5 never called. */
    private static void ofCallAndEnd() {
        int[] noPhone = {-1, 6, 11, 12, LOW, HIGH};
        Check.sentence("call: IndexOutOfBoundsException if there is no such phone");
        for (int phone : noPhone) {
            thrown("phone " + phone, Check.BOUNDS, Scene::busy, l -> l.call(phone));
        }
        thrown("phone 12 of 12", Check.BOUNDS, Scene::full, l -> l.call(12));
        Check.sentence("call: IllegalStateException if it is calling");
        thrown("its mast is not full", Check.STATE, Scene::busy, l -> l.call(0));
        thrown("its mast is full", Check.STATE, Scene::busy, l -> l.call(1));
        thrown("it was handed over", Check.STATE, Scene::busy, l -> l.call(2));
        Check.sentence("end: IndexOutOfBoundsException if there is no such phone");
        for (int phone : noPhone) {
            thrown("phone " + phone, Check.BOUNDS, Scene::busy, l -> l.end(phone));
        }
        thrown("phone 12 of 12", Check.BOUNDS, Scene::full, l -> l.end(12));
        Check.sentence("end: IllegalStateException if it is not calling");
        thrown("it was BLOCKED", Check.STATE, Scene::busy, l -> l.end(3));
        thrown("it was DROPPED", Check.STATE, Scene::busy, l -> l.end(4));
        thrown("it never called", Check.STATE, Scene::busy, l -> l.end(5));
        thrown("its call was ended", Check.STATE, () -> {
            Mastline line = Scene.busy();
            line.end(2);
            return line;
        }, l -> l.end(2));
    }

    private static void ofMove() {
        Check.sentence("move: IndexOutOfBoundsException if there is no such phone");
        for (int phone : new int[] {-1, 6, 11, 12, LOW, HIGH}) {
            for (int place : new int[] {0, 50, 99}) {
                thrown("phone " + phone + " to " + place, Check.BOUNDS, Scene::busy, l -> l.move(phone, place));
            }
        }
        Check.sentence("move: IllegalArgumentException if place is out of range");
        for (int phone = 0; phone < 6; phone++) {
            int p = phone;
            for (int place : new int[] {-1, 100, LOW, HIGH}) {
                thrown("phone " + p + " to " + place, Check.ARGUMENT, Scene::busy, l -> l.move(p, place));
            }
        }
        Check.sentence("move: if both apply, IndexOutOfBoundsException is first");
        for (int phone : new int[] {-1, 6, 12, LOW, HIGH}) {
            for (int place : new int[] {-1, 100, LOW, HIGH}) {
                thrown("phone " + phone + " to " + place, Check.BOUNDS, Scene::busy, l -> l.move(phone, place));
            }
        }
    }

    /** The scene late is in the hour 9950. */
    private static void ofPass() {
        Check.sentence("pass: IllegalArgumentException if hours is out of range");
        for (int hours : new int[] {0, -1, -3, 101, LOW, HIGH, HIGH - 2}) {
            thrown("hours " + hours, Check.ARGUMENT, Scene::busy, l -> l.pass(hours));
        }
        Check.sentence("pass: IllegalStateException if it would be above 10000");
        for (int hours : new int[] {51, 52, 99, 100}) {
            thrown("hours " + hours + " from 9950", Check.STATE, Scene::late, l -> l.pass(hours));
        }
        for (int hours : new int[] {1, 2, 100}) {
            thrown("hours " + hours + " from 10000", Check.STATE, () -> {
                Mastline line = Scene.late();
                line.pass(50);
                return line;
            }, l -> l.pass(hours));
        }
        Check.sentence("pass: if both apply, IllegalArgumentException is first");
        for (int hours : new int[] {101, 102, 1000, HIGH, HIGH - 9949, HIGH - 9950}) {
            thrown("hours " + hours + " from 9950", Check.ARGUMENT, Scene::late, l -> l.pass(hours));
        }
    }

    private static void ofQuestions() {
        int[] noMast = {-1, 4, 7, 8, LOW, HIGH};
        int[] noPhone = {-1, 6, 11, 12, LOW, HIGH};
        Check.sentence("ofMast: IndexOutOfBoundsException if there is no such mast; first, if both apply");
        for (int mast : noMast) {
            for (int what : new int[] {0, 1, 2, 3, 4, 5, -1, 6, LOW, HIGH}) {
                thrown("ofMast " + mast + ", " + what, Check.BOUNDS, Scene::busy, l -> l.ofMast(mast, what));
            }
        }
        Check.sentence("ofMast: IllegalArgumentException if what is out of range");
        for (int what : new int[] {-1, 6, LOW, HIGH}) {
            thrown("with a lease, " + what, Check.ARGUMENT, Scene::busy, l -> l.ofMast(0, what));
            thrown("without one, " + what, Check.ARGUMENT, Scene::busy, l -> l.ofMast(2, what));
        }
        Check.sentence("trafficAnew: IndexOutOfBoundsException if there is no such mast");
        for (int mast : noMast) {
            thrown("mast " + mast, Check.BOUNDS, Scene::busy, l -> l.trafficAnew(mast));
        }
        Check.sentence("ofPhone: IndexOutOfBoundsException if there is no such phone; first, if both apply");
        for (int phone : noPhone) {
            for (int what : new int[] {0, 1, 2, 3, 4, -1, 5, LOW, HIGH}) {
                thrown("ofPhone " + phone + ", " + what, Check.BOUNDS, Scene::busy, l -> l.ofPhone(phone, what));
            }
        }
        Check.sentence("ofPhone: IllegalArgumentException if what is out of range");
        for (int what : new int[] {-1, 5, LOW, HIGH}) {
            thrown("of a call, " + what, Check.ARGUMENT, Scene::busy, l -> l.ofPhone(0, what));
            thrown("of no call, " + what, Check.ARGUMENT, Scene::busy, l -> l.ofPhone(5, what));
        }
        Check.sentence("strength: IndexOutOfBoundsException if there is no such phone");
        for (int phone : noPhone) {
            thrown("phone " + phone, Check.BOUNDS, Scene::busy, l -> l.strength(phone));
        }
        Check.sentence("paid: IndexOutOfBoundsException if there is no such farmer");
        for (int farmer : new int[] {-1, 6, LOW, HIGH}) {
            thrown("farmer " + farmer, Check.BOUNDS, Scene::busy, l -> l.paid(farmer));
        }
    }
}
