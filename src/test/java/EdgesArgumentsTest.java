/** Each argument of each method: its smallest and largest value, all between, and those just outside. */
public final class EdgesArgumentsTest {
    private interface Made {
        Mastline make();
    }

    private interface With {
        Object answer(Mastline line, int argument);
    }

    public static void main(String[] args) {
        ofMast();
        ofLease();
        ofSunPhoneAndPass();
        ofPhones();
        ofQuestions();
        Check.end("EdgesArgumentsTest");
    }

    /** Within the range it is answered, each time on a new object; outside it throws and changes nothing. */
    private static void range(String sentence, int least, int most, String outside, Made made, With call) {
        Check.sentence(sentence);
        for (int x = least; x <= most; x++) {
            int argument = x;
            Mastline line = made.make();
            String answer = Check.told(() -> call.answer(line, argument));
            Check.due(argument + " throws", false, () -> answer.startsWith("throws."));
        }
        int[] wrong = {least - 1, most + 1, least - 2, most + 2, least - 256, most + 65536, Integer.MIN_VALUE,
            Integer.MIN_VALUE + 1, Integer.MAX_VALUE, Integer.MAX_VALUE - 1};
        for (int x : wrong) {
            int argument = x;
            Mastline line = made.make();
            String before = Check.state(line);
            Check.due("" + argument, outside, () -> call.answer(line, argument));
            Check.due("the state after " + argument, before, () -> Check.state(line));
        }
    }

    private static void ofMast() {
        range("mast, place: 0 to 99", 0, 99, Check.ARGUMENT, Scene::busy, (l, x) -> l.mast(x, 9, 2, 3, 4, true));
        range("mast, range: 1 to 40", 1, 40, Check.ARGUMENT, Scene::busy, (l, x) -> l.mast(9, x, 2, 3, 4, true));
        range("mast, calls: 1 to 10", 1, 10, Check.ARGUMENT, Scene::busy, (l, x) -> l.mast(9, 9, x, 3, 4, true));
        range("mast, panels: 0 to 10", 0, 10, Check.ARGUMENT, Scene::busy, (l, x) -> l.mast(9, 9, 2, x, 4, true));
        range("mast, battery: 0 to 100", 0, 100, Check.ARGUMENT, Scene::busy, (l, x) -> l.mast(9, 9, 2, 3, x, true));
    }

    private static Object lease(Mastline line, int... a) {
        line.lease(a[0], a[1], a[2], a[3], a[4], a[5], a[6]);
        return "nothing";
    }

    private static void ofLease() {
        Made masts = () -> {
            Mastline line = new Mastline();
            for (int mast = 0; mast < 5; mast++) {
                line.mast(20 * mast, 9, 2, 3, 4, true);
            }
            line.pass(3);
            return line;
        };
        range("lease, mast: a mast", 0, 4, Check.BOUNDS, masts, (l, x) -> lease(l, x, 0, 1, 5, 9, 1, 1));
        range("lease, farmer: 0 to 5", 0, 5, Check.BOUNDS, masts, (l, x) -> lease(l, 0, x, -1, 10, 9, 1, 1));
        range("lease, tenths: 0 to 10", 0, 10, Check.ARGUMENT, masts, (l, x) -> lease(l, 0, 0, 1, x, 9, 1, 1));
        range("lease, tenths: 10, if there is no other one", 10, 10, Check.ARGUMENT, masts,
                (l, x) -> lease(l, 0, 0, -1, x, 9, 1, 1));
        range("lease, until: above the hour, to 10000", 4, 10000, Check.ARGUMENT, masts,
                (l, x) -> lease(l, 0, 0, 1, 5, x, 1, 1));
        range("lease, rent: 0 to 1000", 0, 1000, Check.ARGUMENT, masts, (l, x) -> lease(l, 0, 0, 1, 5, 9, x, 1));
        range("lease, byCall: 0 to 100", 0, 100, Check.ARGUMENT, masts, (l, x) -> lease(l, 0, 0, 1, 5, 9, 1, x));
        allPairsOfFarmers(masts);
    }

    private static void allPairsOfFarmers(Made masts) {
        Check.sentence("lease, farmer: 0 to 5; other: another farmer, or NONE");
        for (int first = -3; first <= 8; first++) {
            for (int second = -3; second <= 8; second++) {
                int farmer = first;
                int other = second;
                boolean none = farmer < 0 || farmer > 5 || other < Mastline.NONE || other > 5;
                String want = none ? Check.BOUNDS : farmer == other ? Check.ARGUMENT : "nothing";
                Check.due(farmer + " and " + other, want, () -> lease(masts.make(), 0, farmer, other, 10, 9, 1, 1));
            }
        }
    }

    private static void ofSunPhoneAndPass() {
        range("sun, sun: 0 to 10", 0, 10, Check.ARGUMENT, Scene::busy, (l, x) -> l.sun(x));
        range("phone, place: 0 to 99", 0, 99, Check.ARGUMENT, Scene::busy, (l, x) -> l.phone(x));
        range("pass, hours: 1 to 100", 1, 100, Check.ARGUMENT, Scene::busy, (l, x) -> l.pass(x));
    }

    private static void ofPhones() {
        Made quiet = () -> {
            Mastline line = new Mastline();
            Scene.phones(line, 5, 4);
            return line;
        };
        Made calling = () -> {
            Mastline line = new Mastline();
            Scene.gridMast(line, 5, 5, 9);
            Scene.calls(line, 5, 4);
            return line;
        };
        range("call, phone: a phone", 0, 3, Check.BOUNDS, quiet, (l, x) -> l.call(x));
        range("end, phone: a phone", 0, 3, Check.BOUNDS, calling, (l, x) -> l.end(x));
        range("move, phone: a phone", 0, 3, Check.BOUNDS, calling, (l, x) -> l.move(x, 7));
        range("move, place: 0 to 99", 0, 99, Check.ARGUMENT, calling, (l, x) -> l.move(1, x));
        range("move, place: 0 to 99, without a call", 0, 99, Check.ARGUMENT, quiet, (l, x) -> l.move(1, x));
    }

    private static void ofQuestions() {
        range("ofMast, mast: a mast", 0, 3, Check.BOUNDS, Scene::busy, (l, x) -> l.ofMast(x, 0));
        range("ofMast, what: 0 to 5", 0, 5, Check.ARGUMENT, Scene::busy, (l, x) -> l.ofMast(0, x));
        range("trafficAnew, mast: a mast", 0, 3, Check.BOUNDS, Scene::busy, (l, x) -> l.trafficAnew(x));
        range("ofPhone, phone: a phone", 0, 5, Check.BOUNDS, Scene::busy, (l, x) -> l.ofPhone(x, 0));
        range("ofPhone, what: 0 to 4", 0, 4, Check.ARGUMENT, Scene::busy, (l, x) -> l.ofPhone(0, x));
        range("strength, phone: a phone", 0, 5, Check.BOUNDS, Scene::busy, (l, x) -> l.strength(x));
        range("paid, farmer: 0 to 5", 0, 5, Check.BOUNDS, Scene::busy, (l, x) -> l.paid(x));
        allThereCanBe();
        noneYet();
    }

    private static void allThereCanBe() {
        range("up to 8: ofMast", 0, 7, Check.BOUNDS, Scene::full, (l, x) -> l.ofMast(x, 0));
        range("up to 8: trafficAnew", 0, 7, Check.BOUNDS, Scene::full, (l, x) -> l.trafficAnew(x));
        range("up to 12: ofPhone", 0, 11, Check.BOUNDS, Scene::full, (l, x) -> l.ofPhone(x, 0));
        range("up to 12: strength", 0, 11, Check.BOUNDS, Scene::full, (l, x) -> l.strength(x));
        range("up to 12: move", 0, 11, Check.BOUNDS, Scene::full, (l, x) -> l.move(x, 50));
        Made ended = () -> {
            Mastline line = Scene.full();
            line.pass(1);
            for (int phone = 0; phone < 12; phone++) {
                int p = phone;
                Check.told(() -> line.end(p));
            }
            return line;
        };
        range("up to 12: call", 0, 11, Check.BOUNDS, ended, (l, x) -> l.call(x));
        Made calling = () -> {
            Mastline line = new Mastline();
            Scene.gridMast(line, 5, 5, 10);
            Scene.gridMast(line, 9, 5, 10);
            Scene.calls(line, 5, 12);
            return line;
        };
        range("up to 12: end", 0, 11, Check.BOUNDS, calling, (l, x) -> l.end(x));
        Made unleased = () -> {
            Mastline line = new Mastline();
            for (int mast = 0; mast < 8; mast++) {
                line.mast(mast, 9, 2, 3, 4, true);
            }
            return line;
        };
        range("up to 8: lease", 0, 7, Check.BOUNDS, unleased, (l, x) -> lease(l, x, 0, 1, 5, 9, 1, 1));
    }

    private static void noneYet() {
        Check.sentence("no masts, no phones");
        for (int x = -1; x <= 12; x++) {
            int number = x;
            Mastline line = new Mastline();
            Check.due("lease of mast " + x, Check.BOUNDS, () -> lease(line, number, 0, -1, 10, 9, 1, 1));
            Check.due("call of phone " + x, Check.BOUNDS, () -> line.call(number));
            Check.due("end of phone " + x, Check.BOUNDS, () -> line.end(number));
            Check.due("move of phone " + x, Check.BOUNDS, () -> line.move(number, 5));
            Check.due("ofMast of mast " + x, Check.BOUNDS, () -> line.ofMast(number, 0));
            Check.due("trafficAnew of mast " + x, Check.BOUNDS, () -> line.trafficAnew(number));
            Check.due("ofPhone of phone " + x, Check.BOUNDS, () -> line.ofPhone(number, 0));
            Check.due("strength of phone " + x, Check.BOUNDS, () -> line.strength(number));
        }
    }
}
