/** The sentences on phones, calls and handovers, each with its edges. */
public final class EdgesCallsTest {
    public static void main(String[] args) {
        coversAllPlaces();
        covers();
        carriesSoMany();
        twelvePhones();
        notCallingCanCall();
        nearest();
        thatIsOn();
        coversItsPlace();
        fewerThanItCan();
        ofSeveralTheLowest();
        blocked();
        ends();
        comesWithoutACall();
        comesWhereItIsCovered();
        comesWhereItIsNot();
        handedOverLikewise();
        toAnotherOne();
        dropped();
        Check.end("EdgesCallsTest");
    }

    private static void coversAllPlaces() {
        Check.sentence("The line has the places 0 to 99");
        for (int place = 0; place <= 99; place++) {
            int p = place;
            Mastline line = new Mastline();
            Scene.gridMast(line, p, 1, 1);
            Check.due("holes beside a mast at " + p, p == 0 || p == 99 ? 98 : 97, line::holes);
            line.phone(p);
            Check.due("the place of a phone", p, () -> line.ofPhone(0, 0));
            Check.due("a call at " + p, 0, () -> line.call(0));
        }
        Mastline line = new Mastline();
        Scene.gridMast(line, 0, 40, 10);
        Scene.phones(line, 99, 1);
        Scene.phones(line, 60, 1);
        Check.due("the line has ends, no ring", -1, () -> line.call(0));
        Check.due("60 to 99 is not near to 0", -1, () -> line.call(1));
        Check.due("no places below 0", 59, line::holes);
    }

    private static void covers() {
        Check.sentence("covers all places that are at most its range away, 1 to 40");
        for (int range = 1; range <= 40; range++) {
            for (int place : new int[] {0, 1, 20, 50, 79, 98, 99}) {
                Mastline line = new Mastline();
                Scene.gridMast(line, place, range, 1);
                int holes = 0;
                line.phone(0);
                for (int at = 0; at <= 99; at++) {
                    boolean covered = at >= place - range && at <= place + range;
                    holes += covered ? 0 : 1;
                    line.move(0, at);
                    Check.due("range " + range + ", mast at " + place + ", phone at " + at, covered ? 0 : -1,
                            () -> line.call(0));
                    if (covered) {
                        line.end(0);
                    }
                }
                Check.due("range " + range + ", mast at " + place + ", holes", holes, line::holes);
            }
        }
    }

    private static void carriesSoMany() {
        Check.sentence("carries so many calls at once, 1 to 10");
        for (int calls = 1; calls <= 10; calls++) {
            int c = calls;
            Mastline line = new Mastline();
            Scene.gridMast(line, 50, 10, c);
            Scene.phones(line, 50, 12);
            for (int phone = 0; phone < 12; phone++) {
                int p = phone;
                Check.due(c + " calls, call " + p, p < c ? 0 : -1, () -> line.call(p));
            }
            Check.due(c + " calls, carried", c, () -> line.ofMast(0, 1));
            line.end(0);
            Check.due(c + " calls, one ended", c - 1, () -> line.ofMast(0, 1));
            Check.due(c + " calls, place for one", 0, () -> line.call(11));
            Check.due(c + " calls, and for no other", -1, () -> line.call(0));
            line.pass(1);
            Check.due(c + " calls, counted", "1 " + c + " 0 " + (2 + c) + " " + c + " 10000", () -> Check.mast(line, 0));
        }
    }

    private static void twelvePhones() {
        Check.sentence("Phones are numbered from 0, up to 12, each at a place");
        Mastline line = new Mastline();
        for (int phone = 0; phone < 12; phone++) {
            int p = phone;
            Check.due("no phone yet", Check.BOUNDS, () -> line.ofPhone(p, 0));
            Check.due("phone " + p, p, () -> line.phone(99 - p));
            Check.due("new", 99 - p + " -1 0 0 0", () -> Check.phone(line, p));
            Check.due("no call, no strength", 0.0f, () -> line.strength(p));
        }
        Check.due("a thirteenth one", Check.STATE, () -> line.phone(5));
        Check.due("no thirteenth one", Check.BOUNDS, () -> line.ofPhone(12, 0));
        Mastline one = new Mastline();
        Scene.phones(one, 7, 12);
        Check.due("all at one place", "7 -1 0 0 0", () -> Check.phone(one, 11));
    }

    private static void notCallingCanCall() {
        Check.sentence("A phone that is not calling can call");
        Mastline line = new Mastline();
        Scene.gridMast(line, 50, 10, 1);
        Scene.phones(line, 50, 2);
        Check.due("a new one", 0, () -> line.call(0));
        Check.due("one that is calling", Check.STATE, () -> line.call(0));
        Check.due("another one is BLOCKED", -1, () -> line.call(1));
        Check.due("and again", -1, () -> line.call(1));
        line.end(0);
        Check.due("one that was BLOCKED", 0, () -> line.call(1));
        line.end(1);
        Check.due("one whose call was ended", 0, () -> line.call(0));
        line.move(0, 0);
        line.move(0, 50);
        Check.due("one whose call was DROPPED", 0, () -> line.call(0));
        Check.due("all in all", "50 0 0 1 0 / 50 -1 2 0 0", () -> Check.phone(line, 0) + " / " + Check.phone(line, 1));
    }

    private static void nearest() {
        Check.sentence("by the nearest mast");
        for (int at = 0; at <= 99; at++) {
            Mastline line = new Mastline();
            Scene.gridMast(line, 80, 40, 1);
            Scene.gridMast(line, 49, 40, 1);
            Scene.gridMast(line, 20, 40, 1);
            line.phone(at);
            int want = at <= 34 ? 2 : at <= 64 ? 1 : 0;
            Check.due("at " + at, want, () -> line.call(0));
        }
        Mastline narrow = new Mastline();
        Scene.gridMast(narrow, 50, 40, 1);
        Scene.gridMast(narrow, 52, 1, 1);
        narrow.phone(51);
        narrow.phone(52);
        Check.due("the range is no matter", 1, () -> narrow.call(1));
        Check.due("then the other one", 0, () -> narrow.call(0));
    }

    private static void thatIsOn() {
        Check.sentence("that is ON");
        Mastline line = new Mastline();
        line.mast(50, 10, 1, 0, 0, false);
        Scene.gridMast(line, 55, 10, 1);
        Scene.phones(line, 50, 2);
        Check.due("the nearest has no lease", 1, () -> line.call(0));
        line.end(0);
        line.lease(0, 0, -1, 10, 3, 0, 0);
        Check.due("it has one", 0, () -> line.call(0));
        line.end(0);
        line.pass(1);
        Check.due("it is OUT", 1, () -> line.call(0));
        Check.due("only the other one is ON", -1, () -> line.call(1));
        line.pass(2);
        line.end(0);
        Check.due("its lease ended", 1, () -> line.call(0));
    }

    private static void coversItsPlace() {
        Check.sentence("covers its place");
        Mastline line = new Mastline();
        Scene.gridMast(line, 50, 4, 1);
        Scene.gridMast(line, 60, 6, 1);
        Scene.phones(line, 54, 1);
        Check.due("the nearest at its range", 0, () -> line.call(0));
        line.end(0);
        Scene.gridMast(line, 44, 11, 1);
        line.move(0, 55);
        Check.due("the nearest of those that cover it, though another is as near", 1, () -> line.call(0));
        line.end(0);
        Scene.gridMast(line, 56, 1, 1);
        line.move(0, 54);
        Check.due("the nearest does not cover it", 0, () -> line.call(0));
        line.end(0);
        line.move(0, 67);
        Check.due("one beyond the range", -1, () -> line.call(0));
        line.move(0, 66);
        Check.due("at the range", 1, () -> line.call(0));
    }

    private static void fewerThanItCan() {
        Check.sentence("and carries fewer calls than it can");
        Mastline line = new Mastline();
        Scene.gridMast(line, 50, 10, 3);
        Scene.gridMast(line, 53, 10, 2);
        Scene.phones(line, 50, 6);
        int[] want = {0, 0, 0, 1, 1, -1};
        for (int phone = 0; phone < 6; phone++) {
            int p = phone;
            Check.due("call " + p, want[p], () -> line.call(p));
        }
        line.end(4);
        Check.due("one less than it can", 1, () -> line.call(5));
        line.end(1);
        Check.due("one less than the nearest can", 0, () -> line.call(4));
        Check.due("all are full", "3 2", () -> line.ofMast(0, 1) + " " + line.ofMast(1, 1));
    }

    private static void ofSeveralTheLowest() {
        Check.sentence("of several the lowest");
        Mastline line = new Mastline();
        line.mast(50, 40, 1, 0, 0, true);
        Scene.gridMast(line, 57, 40, 1);
        Scene.gridMast(line, 43, 40, 1);
        Scene.gridMast(line, 57, 40, 1);
        Scene.gridMast(line, 43, 40, 1);
        Scene.phones(line, 50, 5);
        int[] want = {1, 2, 3, 4, -1};
        for (int phone = 0; phone < 5; phone++) {
            int p = phone;
            Check.due("call " + p, want[p], () -> line.call(p));
        }
        line.end(2);
        line.end(1);
        Check.due("the lowest that is free", 2, () -> line.call(4));
        Mastline eight = new Mastline();
        for (int mast = 0; mast < 8; mast++) {
            Scene.gridMast(eight, 50, 5, 1);
        }
        Scene.phones(eight, 50, 9);
        for (int phone = 0; phone < 9; phone++) {
            int p = phone;
            Check.due("of eight, call " + p, p < 8 ? p : -1, () -> eight.call(p));
        }
    }

    private static void blocked() {
        Check.sentence("if there is none, the call is BLOCKED");
        Mastline line = new Mastline();
        line.phone(50);
        Check.due("no mast at all", -1, () -> line.call(0));
        line.mast(50, 5, 1, 0, 0, false);
        Check.due("none with a lease", -1, () -> line.call(0));
        line.lease(0, 0, -1, 10, 9, 0, 0);
        line.pass(1);
        Check.due("none that is not OUT", -1, () -> line.call(0));
        Scene.gridMast(line, 56, 5, 1);
        Check.due("none that covers it", -1, () -> line.call(0));
        Scene.gridMast(line, 50, 5, 1);
        Scene.calls(line, 50, 1);
        Check.due("none that is not full", -1, () -> line.call(0));
        Check.due("five times BLOCKED, nothing else", "50 -1 5 0 0", () -> Check.phone(line, 0));
        line.pass(1);
        Check.due("a BLOCKED call is no traffic", "0 0 1", () -> line.ofMast(0, 4) + " " + line.ofMast(1, 4) + " "
                + line.trafficAnew(2));
        line.end(1);
        Check.due("and does not call by itself", "50 -1 5 0 0", () -> Check.phone(line, 0));
        Check.due("carried at last", 2, () -> line.call(0));
        Check.due("not BLOCKED once more", "50 2 5 0 0", () -> Check.phone(line, 0));
    }

    private static void ends() {
        Check.sentence("end: Ends a call. Returns the mast that carried it");
        Mastline line = new Mastline();
        Scene.gridMast(line, 20, 10, 10);
        Scene.gridMast(line, 40, 10, 10);
        Scene.calls(line, 20, 2);
        Check.due("in the hour of its call", 0, () -> line.end(0));
        Check.due("once", Check.STATE, () -> line.end(0));
        line.move(1, 35);
        Check.due("after a handover, the mast of now", 1, () -> line.end(1));
        line.call(0);
        line.pass(100);
        Check.due("after many hours", 0, () -> line.end(0));
        Check.due("nothing is DROPPED or BLOCKED", "20 -1 0 0 0 / 35 -1 0 0 1",
                () -> Check.phone(line, 0) + " / " + Check.phone(line, 1));
        Check.due("none is carried", "0 0", () -> line.ofMast(0, 1) + " " + line.ofMast(1, 1));
    }

    private static void comesWithoutACall() {
        Check.sentence("move: the mast that carries its call then; NONE without a call");
        Mastline line = new Mastline();
        Scene.gridMast(line, 50, 10, 10);
        line.phone(0);
        for (int place : new int[] {99, 99, 50, 60, 61, 0}) {
            Check.due("to " + place, -1, () -> line.move(0, place));
            Check.due("at " + place, place + " -1 0 0 0", () -> Check.phone(line, 0));
        }
        Check.due("it carries none", 0, () -> line.ofMast(0, 1));
    }

    private static void comesWhereItIsCovered() {
        Check.sentence("When its mast covers the place, it keeps the call");
        Mastline line = new Mastline();
        Scene.gridMast(line, 50, 10, 1);
        line.phone(50);
        line.call(0);
        Scene.gridMast(line, 40, 10, 1);
        Scene.gridMast(line, 60, 10, 1);
        for (int place : new int[] {50, 40, 60, 41, 59, 60, 60, 50}) {
            Check.due("to " + place, 0, () -> line.move(0, place));
            Check.due("at " + place, place + " 0 0 0 0", () -> Check.phone(line, 0));
        }
        line.pass(1);
        Check.due("carried by it all the time", "1 1 0 3 1 10000", () -> Check.mast(line, 0));
    }

    private static void comesWhereItIsNot() {
        Check.sentence("and its mast does not cover that, it is handed over");
        for (int range : new int[] {1, 2, 39, 40}) {
            for (int side = -1; side <= 1; side += 2) {
                int at = 50 + side * range;
                int beyond = at + side;
                Mastline line = new Mastline();
                Scene.gridMast(line, 50, range, 1);
                Scene.gridMast(line, beyond, 5, 1);
                line.phone(50);
                line.call(0);
                Check.due("range " + range + ", at it", 0, () -> line.move(0, at));
                Check.due("range " + range + ", beyond it", 1, () -> line.move(0, beyond));
                Check.due("handed over once", beyond + " 1 0 0 1", () -> Check.phone(line, 0));
                Check.due("of one mast to the other", "0 1", () -> line.ofMast(0, 1) + " " + line.ofMast(1, 1));
            }
        }
    }

    private static void handedOverLikewise() {
        Check.sentence("it is handed over likewise");
        Mastline line = new Mastline();
        Scene.gridMast(line, 10, 10, 10);
        line.mast(60, 10, 5, 0, 0, true);
        Scene.gridMast(line, 63, 1, 5);
        Scene.gridMast(line, 65, 10, 1);
        Scene.gridMast(line, 57, 10, 1);
        Scene.gridMast(line, 55, 10, 1);
        int out = Scene.sunMast(line, 0, 0);
        Check.due("a mast to be OUT", 6, () -> out);
        line.pass(1);
        Scene.calls(line, 10, 4);
        Check.due("the nearest that is ON, covers it and is free", 4, () -> line.move(0, 60));
        Check.due("of two, the lowest", 3, () -> line.move(1, 60));
        Check.due("the last one", 5, () -> line.move(2, 60));
        Check.due("none is left", -1, () -> line.move(3, 60));
        Check.due("of the first mast", 0, () -> line.ofMast(0, 1));
    }

    private static void toAnotherOne() {
        Check.sentence("to another one");
        Mastline line = new Mastline();
        Scene.gridMast(line, 50, 5, 2);
        Scene.calls(line, 50, 1);
        Check.due("there is no other one, though it has a place", -1, () -> line.move(0, 56));
        Mastline two = new Mastline();
        Scene.gridMast(two, 50, 5, 2);
        Scene.gridMast(two, 60, 5, 1);
        Scene.calls(two, 50, 1);
        for (int times = 1; times <= 20; times++) {
            int t = times;
            Check.due("there and back", t % 2, () -> two.move(0, t % 2 == 1 ? 60 : 50));
            Check.due("handed over so often", t, () -> two.ofPhone(0, 4));
        }
        Check.due("neither is left behind", "1 0", () -> two.ofMast(0, 1) + " " + two.ofMast(1, 1));
    }

    private static void dropped() {
        Check.sentence("if there is none, it is DROPPED");
        Mastline line = new Mastline();
        Scene.gridMast(line, 50, 5, 1);
        line.phone(50);
        line.call(0);
        Check.due("one beyond, above", -1, () -> line.move(0, 56));
        Check.due("DROPPED once", "56 -1 0 1 0", () -> Check.phone(line, 0));
        Check.due("its mast is free", 0, () -> line.ofMast(0, 1));
        Check.due("back, it does not call", -1, () -> line.move(0, 50));
        line.call(0);
        Check.due("one beyond, below", -1, () -> line.move(0, 44));
        Check.due("DROPPED twice", "44 -1 0 2 0", () -> Check.phone(line, 0));
        Check.due("no call is left", Check.STATE, () -> line.end(0));
        Check.due("without a call nothing is DROPPED", -1, () -> line.move(0, 99));
        Scene.gridMast(line, 60, 10, 1);
        Scene.calls(line, 60, 1);
        line.move(0, 50);
        line.call(0);
        Check.due("the other one is full", -1, () -> line.move(0, 60));
        Check.due("DROPPED three times", "60 -1 0 3 0", () -> Check.phone(line, 0));
        Check.due("a DROPPED call is not BLOCKED", -1, () -> line.call(0));
        Check.due("but the next one is", "60 -1 1 3 0", () -> Check.phone(line, 0));
    }
}
