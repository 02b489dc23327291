/** The sentences on what an object answers of itself, each with its edges. */
public final class EdgesAnswersTest {
    public static void main(String[] args) {
        newObject();
        sunBefore();
        sunOfNowAndLater();
        onOrNot();
        howManyItCarries();
        unitsOfTheGrid();
        endOfTheLease();
        trafficFromTheLog();
        callsOfNoHours();
        trafficOverLeases();
        strengths();
        strengthOfNoCall();
        placesWithoutAMast();
        questionsChangeNothing();
        Check.end("EdgesAnswersTest");
    }

    private static void newObject() {
        Check.sentence("The hour 0; no masts, no phones; no sun");
        Mastline line = new Mastline();
        Check.due("no sun", 0, () -> line.sun(5));
        Check.due("nobody was paid", "0 0 0 0 0 0", () -> Check.paid(line));
        Check.due("all places are holes", 100, line::holes);
        Check.due("no mast", Check.BOUNDS, () -> line.ofMast(0, 0));
        Check.due("no phone", Check.BOUNDS, () -> line.ofPhone(0, 0));
        Check.due("the first mast", 0, () -> line.mast(0, 1, 1, 0, 0, false));
        Check.due("the first phone", 0, () -> line.phone(0));
        Check.due("the first hour", 1, () -> line.pass(1));
        Check.due("NONE", -1, () -> Mastline.NONE);
    }

    private static void sunBefore() {
        Check.sentence("sun: 0 to 10; returns the sun before");
        Mastline line = new Mastline();
        int[] told = {0, 10, 10, -1, 11, 1, 9, Integer.MIN_VALUE, 0, Integer.MAX_VALUE, 5, 5};
        int before = 0;
        for (int sun : told) {
            boolean holds = sun >= 0 && sun <= 10;
            Check.due("sun " + sun, holds ? "" + before : Check.ARGUMENT, () -> line.sun(sun));
            before = holds ? sun : before;
        }
        line.pass(50);
        Check.due("after many hours", 5, () -> line.sun(0));
    }

    private static void sunOfNowAndLater() {
        Check.sentence("Tells the sun, for the hour of now and later ones");
        Mastline line = new Mastline();
        Scene.sunMast(line, 1, 100);
        line.sun(3);
        line.sun(7);
        line.pass(1);
        Check.due("the hour of now, as it was told last", 5, () -> line.ofMast(0, 2));
        line.pass(3);
        Check.due("later ones", 20, () -> line.ofMast(0, 2));
        line.sun(0);
        Check.due("not those that went by", 20, () -> line.ofMast(0, 2));
        line.pass(1);
        Check.due("the next one", 18, () -> line.ofMast(0, 2));
    }

    private static void onOrNot() {
        Check.sentence("ofMast 0: 1 if it is ON, otherwise 0");
        Mastline line = new Mastline();
        line.mast(50, 10, 10, 0, 0, false);
        Check.due("no lease", 0, () -> line.ofMast(0, 0));
        line.lease(0, 0, -1, 10, 3, 0, 0);
        Check.due("a lease", 1, () -> line.ofMast(0, 0));
        line.pass(1);
        Check.due("OUT", 0, () -> line.ofMast(0, 0));
        line.pass(3);
        Check.due("neither", 0, () -> line.ofMast(0, 0));
    }

    private static void howManyItCarries() {
        Check.sentence("ofMast 1: how many calls it carries");
        Mastline line = new Mastline();
        Scene.gridMast(line, 50, 10, 10);
        for (int calls = 0; calls <= 10; calls++) {
            Check.due("calls", calls, () -> line.ofMast(0, 1));
            Scene.calls(line, 50, 1);
        }
        Check.due("the eleventh is not carried", 10, () -> line.ofMast(0, 1));
        for (int phone = 0; phone < 10; phone++) {
            int p = phone;
            Check.due("ended or DROPPED", p % 2 == 0 ? 0 : -1, () -> p % 2 == 0 ? line.end(p) : line.move(p, 99));
            Check.due("calls that are left", 9 - p, () -> line.ofMast(0, 1));
        }
    }

    private static void unitsOfTheGrid() {
        Check.sentence("ofMast 3: all units that came of the grid");
        Mastline line = new Mastline();
        line.mast(50, 10, 10, 0, 0, true);
        line.pass(10);
        Check.due("none without a lease", 0, () -> line.ofMast(0, 3));
        line.lease(0, 0, -1, 10, 12, 0, 0);
        Scene.calls(line, 50, 10);
        line.pass(1);
        Check.due("an hour", 12, () -> line.ofMast(0, 3));
        line.pass(9);
        Check.due("of two hours", 24, () -> line.ofMast(0, 3));
        line.lease(0, 0, -1, 10, 10000, 0, 0);
        for (int phone = 0; phone < 10; phone++) {
            line.call(phone);
        }
        Scene.pass(line, 9980);
        Check.due("of two leases", 24 + 12 * 9980, () -> line.ofMast(0, 3));
    }

    private static void endOfTheLease() {
        Check.sentence("ofMast 5: the hour at which its lease ends, NONE without one");
        Mastline line = new Mastline();
        line.mast(50, 10, 10, 0, 0, false);
        Check.due("none yet", -1, () -> line.ofMast(0, 5));
        line.lease(0, 0, -1, 10, 2, 0, 0);
        Check.due("leased", 2, () -> line.ofMast(0, 5));
        line.pass(1);
        Check.due("OUT, but leased", 2, () -> line.ofMast(0, 5));
        line.pass(1);
        Check.due("ended", -1, () -> line.ofMast(0, 5));
        line.lease(0, 0, -1, 10, 10000, 0, 0);
        Check.due("leased anew", 10000, () -> line.ofMast(0, 5));
    }

    private static void trafficFromTheLog() {
        Check.sentence("trafficAnew: found again from the log: when each call came to it, and when it went");
        Mastline line = new Mastline();
        Scene.gridMast(line, 20, 10, 10);
        Scene.gridMast(line, 40, 10, 10);
        Scene.calls(line, 20, 2);
        line.pass(3);
        Check.due("calls that go on", "6 0", () -> line.trafficAnew(0) + " " + line.trafficAnew(1));
        line.end(0);
        line.move(1, 35);
        Check.due("one that ended, one that was handed over", "6 0", () -> line.trafficAnew(0) + " "
                + line.trafficAnew(1));
        line.pass(4);
        Check.due("the one that was handed over", "6 4", () -> line.trafficAnew(0) + " " + line.trafficAnew(1));
        line.move(1, 99);
        line.pass(5);
        Check.due("DROPPED", "6 4", () -> line.trafficAnew(0) + " " + line.trafficAnew(1));
        line.call(0);
        line.pass(100);
        Check.due("called again", "106 4", () -> line.trafficAnew(0) + " " + line.trafficAnew(1));
        Check.due("as it was counted", "106 4", () -> line.ofMast(0, 4) + " " + line.ofMast(1, 4));
        Mastline all = new Mastline();
        Scene.gridMast(all, 50, 10, 10);
        Scene.calls(all, 50, 10);
        Scene.pass(all, 10000);
        Check.due("all hours there can be", "100000 100000", () -> all.trafficAnew(0) + " " + all.ofMast(0, 4));
    }

    private static void callsOfNoHours() {
        Check.sentence("trafficAnew: a call that came and went in one hour has no hours");
        Mastline line = new Mastline();
        Scene.gridMast(line, 20, 10, 10);
        Scene.gridMast(line, 40, 10, 10);
        Scene.calls(line, 20, 1);
        line.end(0);
        line.call(0);
        line.move(0, 40);
        line.move(0, 20);
        line.move(0, 40);
        Check.due("in one hour", "0 0 0 0", () -> line.trafficAnew(0) + " " + line.trafficAnew(1) + " "
                + line.ofMast(0, 4) + " " + line.ofMast(1, 4));
        line.pass(1);
        Check.due("the one that carries it as the hour goes by", "0 1 0 1", () -> line.trafficAnew(0) + " "
                + line.trafficAnew(1) + " " + line.ofMast(0, 4) + " " + line.ofMast(1, 4));
        line.end(0);
        for (int times = 0; times < 400; times++) {
            line.call(0);
            line.end(0);
        }
        Check.due("very many calls of no hours", "0 1", () -> line.trafficAnew(0) + " " + line.trafficAnew(1));
    }

    private static void trafficOverLeases() {
        Check.sentence("ofMast 4: its traffic: all hours of calls");
        Mastline line = new Mastline();
        line.mast(50, 10, 10, 0, 0, true);
        Scene.phones(line, 50, 1);
        for (int lease = 1; lease <= 40; lease++) {
            int all = 2 * lease;
            line.lease(0, 0, -1, 10, 3 * lease - 1, 0, 0);
            line.call(0);
            line.pass(3);
            Check.due("two hours of each lease", all + " " + all, () -> line.ofMast(0, 4) + " " + line.trafficAnew(0));
            Check.due("DROPPED as it ended", lease, () -> line.ofPhone(0, 3));
        }
    }

    private static void strengths() {
        Check.sentence("strength: 1.0f, less the distance to its mast, as a float, divided by the range of that, as a"
                + " float");
        for (int range = 1; range <= 40; range++) {
            for (int place = 0; place <= 99; place += 33) {
                Mastline line = new Mastline();
                Scene.gridMast(line, place, range, 1);
                line.phone(place);
                line.call(0);
                Check.due("at the mast", 1.0f, () -> line.strength(0));
                for (int at = Math.max(place - range, 0); at <= Math.min(place + range, 99); at++) {
                    float distance = at < place ? place - at : at - place;
                    float part = distance / range;
                    line.move(0, at);
                    Check.due("range " + range + ", mast at " + place + ", phone at " + at, 1.0f - part,
                            () -> line.strength(0));
                }
                int edge = place - range >= 0 ? place - range : place + range;
                if (edge <= 99) {
                    line.move(0, edge);
                    Check.due("at its range", 0.0f, () -> line.strength(0));
                }
            }
        }
    }

    private static void strengthOfNoCall() {
        Check.sentence("strength: 0.0f without a call");
        Mastline line = new Mastline();
        line.phone(50);
        Check.due("no mast", 0.0f, () -> line.strength(0));
        Scene.gridMast(line, 50, 10, 1);
        Check.due("at a mast, without a call", 0.0f, () -> line.strength(0));
        line.call(0);
        Check.due("with a call", 1.0f, () -> line.strength(0));
        line.end(0);
        Check.due("ended", 0.0f, () -> line.strength(0));
        line.call(0);
        Scene.phones(line, 50, 1);
        line.call(1);
        Check.due("BLOCKED", 0.0f, () -> line.strength(1));
        line.move(0, 99);
        Check.due("DROPPED", 0.0f, () -> line.strength(0));
    }

    private static void placesWithoutAMast() {
        Check.sentence("holes: how many places no mast that is ON covers");
        Mastline line = new Mastline();
        line.mast(19, 20, 1, 0, 0, true);
        line.mast(60, 20, 1, 0, 0, false);
        line.mast(90, 9, 1, 0, 0, true);
        line.mast(60, 20, 1, 0, 0, true);
        Check.due("none is ON", 100, line::holes);
        line.lease(0, 0, -1, 10, 9, 0, 0);
        Check.due("0 to 39 are covered", 60, line::holes);
        line.lease(1, 0, -1, 10, 9, 0, 0);
        Check.due("40 to 80 too", 19, line::holes);
        line.lease(2, 0, -1, 10, 3, 0, 0);
        Check.due("81 to 99 too", 0, line::holes);
        line.lease(3, 0, -1, 10, 2, 0, 0);
        Check.due("40 to 80 twice", 0, line::holes);
        line.phone(60);
        line.call(0);
        Check.due("one that is full covers", 0, line::holes);
        line.pass(1);
        Check.due("one of the two is OUT", 0, line::holes);
        line.pass(1);
        Check.due("the lease of the other one ended", 41, line::holes);
        line.pass(1);
        Check.due("and of the last one", 60, line::holes);
        line.pass(6);
        Check.due("and of all", 100, line::holes);
    }

    private static void questionsChangeNothing() {
        Check.sentence("ofMast, trafficAnew, ofPhone, strength, paid and holes return something");
        Mastline line = Scene.busy();
        Mastline twin = Scene.busy();
        String first = Check.state(line);
        for (int times = 0; times < 5; times++) {
            Check.due("asked once more", first, () -> Check.state(line));
        }
        String later = Scene.later(twin);
        Check.due("later answers", later, () -> Scene.later(line));
    }
}
