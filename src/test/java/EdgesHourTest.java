/** The sentences on what an hour does, in its order, and on pass, each with its edges. */
public final class EdgesHourTest {
    public static void main(String[] args) {
        countedFromZero();
        oneToAHundredHours();
        notAboveTheLastHour();
        hoursAtOnceAndOneByOne();
        eachCallCounts();
        rentsBeforePower();
        powerBeforeHandover();
        powerInTheLastHourOfALease();
        leasesEndWhoseHourItIs();
        leasesEndBeforeHandover();
        handedOverByPhones();
        handedOverToOneThatCameBack();
        notBackByItself();
        Check.end("EdgesHourTest");
    }

    private static void countedFromZero() {
        Check.sentence("Hours are counted from 0");
        Mastline line = new Mastline();
        line.mast(50, 5, 1, 0, 0, true);
        Check.dueAct("a lease until the hour 0", Check.ARGUMENT, () -> line.lease(0, 0, -1, 10, 0, 1, 1));
        Check.dueAct("a lease until the hour 1", "nothing", () -> line.lease(0, 0, -1, 10, 1, 1, 1));
        Check.due("the first hour goes by", 1, () -> line.pass(1));
        Check.due("the second hour goes by", 2, () -> line.pass(1));
        Check.due("one rent", 1, () -> line.paid(0));
    }

    private static void oneToAHundredHours() {
        Check.sentence("hours: 1 to 100; returns the hour");
        Mastline line = new Mastline();
        int hour = 0;
        for (int hours = -2; hours <= 103; hours++) {
            int h = hours;
            boolean holds = h >= 1 && h <= 100;
            hour += holds ? h : 0;
            Check.due("pass " + h, holds ? "" + hour : Check.ARGUMENT, () -> line.pass(h));
        }
    }

    private static void notAboveTheLastHour() {
        Check.sentence("IllegalStateException if it would be above 10000");
        for (int left = 0; left <= 101; left++) {
            int from = 10000 - left;
            for (int hours : new int[] {left - 1, left, left + 1}) {
                Mastline line = new Mastline();
                Scene.pass(line, from);
                String want = hours < 1 || hours > 100 ? Check.ARGUMENT : hours > left ? Check.STATE
                        : "" + (from + hours);
                Check.due("from " + from + " so many hours: " + hours, want, () -> line.pass(hours));
            }
        }
        Mastline last = Scene.at(10000);
        for (int hours = 1; hours <= 100; hours++) {
            int h = hours;
            Check.due("from 10000 so many hours: " + h, Check.STATE, () -> last.pass(h));
        }
    }

    private static void hoursAtOnceAndOneByOne() {
        Check.sentence("Lets hours go by: one by one as at once");
        for (int hours : new int[] {1, 2, 17, 18, 100}) {
            Mastline atOnce = Scene.busy();
            Mastline oneByOne = Scene.busy();
            atOnce.pass(hours);
            for (int hour = 0; hour < hours; hour++) {
                oneByOne.pass(1);
            }
            Check.due(hours + " hours", Check.state(oneByOne), () -> Check.state(atOnce));
            Check.due(hours + " hours, later", Scene.later(oneByOne), () -> Scene.later(atOnce));
        }
    }

    private static void eachCallCounts() {
        Check.sentence("for each mast that is ON, by numbers, each call that it carries counts 1 hour for it");
        for (int calls = 0; calls <= 10; calls++) {
            int c = calls;
            Mastline line = new Mastline();
            Scene.gridMast(line, 50, 5, 10);
            Scene.gridMast(line, 80, 5, 10);
            Scene.calls(line, 50, c);
            Check.due(c + " calls, no hour", "0 0", () -> line.ofMast(0, 4) + " " + line.trafficAnew(0));
            line.pass(1);
            Check.due(c + " calls, one hour", c + " " + c, () -> line.ofMast(0, 4) + " " + line.trafficAnew(0));
            line.pass(100);
            Check.due(c + " calls, 101 hours", 101 * c + " " + 101 * c,
                    () -> line.ofMast(0, 4) + " " + line.trafficAnew(0));
            Check.due("none of another mast", "0 0", () -> line.ofMast(1, 4) + " " + line.trafficAnew(1));
        }
    }

    private static void rentsBeforePower() {
        Check.sentence("rents are paid; then each mast with a lease, by numbers, has its power");
        Mastline line = new Mastline();
        line.mast(50, 5, 10, 0, 0, false);
        line.lease(0, 3, -1, 10, 2, 5, 7);
        Scene.calls(line, 50, 3);
        line.pass(1);
        Check.due("the hour in which it becomes OUT counts its calls", "0 0 0 0 3 2", () -> Check.mast(line, 0));
        Check.due("and pays for them", 26, () -> line.paid(3));
        Check.due("in the log too", 3, () -> line.trafficAnew(0));
        line.pass(1);
        Check.due("the last hour of its lease counts none", "0 0 0 0 3 -1", () -> Check.mast(line, 0));
        Check.due("and pays the rent alone", 31, () -> line.paid(3));
    }

    private static void powerBeforeHandover() {
        Check.sentence("has its power as told; then calls of masts that are not ON any more are handed over");
        Mastline line = new Mastline();
        Scene.sunMast(line, 0, 0);
        line.mast(50, 10, 10, 1, 100, false);
        line.lease(1, 0, -1, 10, 10000, 0, 0);
        Scene.calls(line, 50, 5);
        line.sun(2);
        line.pass(1);
        Check.due("it needed no unit for the calls that came to it", "1 5 0 0 0 10000", () -> Check.mast(line, 1));
        line.sun(7);
        line.pass(1);
        Check.due("it needs one for each in the next hour", "1 5 0 0 5 10000", () -> Check.mast(line, 1));
        line.sun(6);
        line.pass(1);
        Check.due("one lacks", "0 0 6 0 10 10000", () -> Check.mast(line, 1));
    }

    private static void powerInTheLastHourOfALease() {
        Check.sentence("has its power as told; then it is the next hour, and leases end whose hour it is");
        Mastline line = new Mastline();
        line.mast(50, 5, 10, 1, 100, true);
        line.lease(0, 0, -1, 10, 2, 5, 7);
        Scene.calls(line, 50, 2);
        line.sun(9);
        line.pass(1);
        Check.due("the first hour", "1 2 5 0 2 2", () -> Check.mast(line, 0));
        line.pass(1);
        Check.due("the last hour", "0 0 10 0 4 -1", () -> Check.mast(line, 0));
        Check.due("its rents", 38, () -> line.paid(0));
        line.pass(5);
        Check.due("no hour of its own", "0 0 10 0 4 -1", () -> Check.mast(line, 0));
        line.sun(0);
        line.lease(0, 1, -1, 10, 10000, 0, 0);
        line.pass(6);
        Check.due("the units, the grid and the traffic go on", "1 0 0 2 4 10000", () -> Check.mast(line, 0));
    }

    private static void leasesEndWhoseHourItIs() {
        Check.sentence("and leases end whose hour it is");
        Mastline line = new Mastline();
        for (int mast = 0; mast < 8; mast++) {
            line.mast(12 * mast, 1, 1, 0, 0, true);
            line.lease(mast, 0, -1, 10, 4 - mast / 2, 0, 0);
        }
        String[] want = {"4 4 3 3 2 2 1 1", "4 4 3 3 2 2 -1 -1", "4 4 3 3 -1 -1 -1 -1", "4 4 -1 -1 -1 -1 -1 -1",
            "-1 -1 -1 -1 -1 -1 -1 -1"};
        for (int hour = 0; hour <= 4; hour++) {
            Check.due("in the hour " + hour, want[hour], () -> {
                StringBuilder ends = new StringBuilder();
                for (int mast = 0; mast < 8; mast++) {
                    ends.append(mast == 0 ? "" : " ").append(line.ofMast(mast, 5));
                }
                return ends;
            });
            line.pass(1);
        }
    }

    private static void leasesEndBeforeHandover() {
        Check.sentence("leases end whose hour it is; then calls of masts that are not ON any more are handed over");
        Mastline line = new Mastline();
        Scene.sunMast(line, 0, 0);
        line.mast(50, 10, 10, 0, 0, true);
        line.lease(1, 0, -1, 10, 1, 0, 0);
        Scene.gridMast(line, 60, 10, 1);
        Scene.calls(line, 50, 2);
        line.pass(1);
        Check.due("not to the one whose lease ends in that hour", "50 2 0 0 1", () -> Check.phone(line, 0));
        Check.due("DROPPED, as the other one is full", "50 -1 0 1 0", () -> Check.phone(line, 1));
        Check.due("the one whose lease ended", "0 0 0 2 0 -1", () -> Check.mast(line, 1));
        Mastline both = new Mastline();
        both.mast(50, 10, 10, 0, 0, false);
        both.lease(0, 0, -1, 10, 1, 0, 0);
        Scene.gridMast(both, 55, 10, 1);
        Scene.calls(both, 50, 1);
        both.pass(1);
        Check.due("OUT, and its lease ends: handed over once", "50 1 0 0 1", () -> Check.phone(both, 0));
    }

    /** The lease of mast 0 ends, mast 1 becomes OUT, and mast 2 carries one call and can carry two more. */
    private static void handedOverByPhones() {
        Check.sentence("are handed over, or DROPPED, by phones");
        Mastline line = new Mastline();
        line.mast(10, 10, 10, 0, 0, true);
        line.mast(30, 10, 10, 0, 0, false);
        line.lease(0, 0, -1, 10, 1, 0, 0);
        line.lease(1, 0, -1, 10, 9, 0, 0);
        Scene.gridMast(line, 20, 20, 3);
        for (int place : new int[] {30, 10, 30, 10, 30, 20}) {
            line.phone(place);
        }
        for (int phone = 5; phone >= 0; phone--) {
            line.call(phone);
        }
        Check.due("before", "1 0 1 0 1 2", () -> carriers(line));
        line.pass(1);
        Check.due("the lowest phones have the places", "2 2 -1 -1 -1 2", () -> carriers(line));
        Check.due("one that was handed over", "10 2 0 0 1", () -> Check.phone(line, 1));
        Check.due("one that was DROPPED", "30 -1 0 1 0", () -> Check.phone(line, 2));
        Check.due("the one that stays", "20 2 0 0 0", () -> Check.phone(line, 5));
        Check.due("carried", "0 0 3", () -> line.ofMast(0, 1) + " " + line.ofMast(1, 1) + " " + line.ofMast(2, 1));
    }

    private static String carriers(Mastline line) {
        StringBuilder all = new StringBuilder();
        for (int phone = 0; phone < 6; phone++) {
            all.append(phone == 0 ? "" : " ").append(line.ofPhone(phone, 1));
        }
        return all.toString();
    }

    private static void handedOverToOneThatCameBack() {
        Check.sentence("calls of masts that are not ON any more are handed over to one that is ON in that hour again");
        Mastline line = new Mastline();
        line.mast(50, 10, 10, 1, 0, false);
        line.mast(50, 10, 10, 0, 0, false);
        line.lease(0, 0, -1, 10, 9, 0, 0);
        line.pass(1);
        line.lease(1, 0, -1, 10, 9, 0, 0);
        Scene.calls(line, 50, 1);
        Check.due("the lower one is OUT", "50 1 0 0 0", () -> Check.phone(line, 0));
        line.sun(2);
        line.pass(1);
        Check.due("it is ON, the higher one is OUT", "50 0 0 0 1", () -> Check.phone(line, 0));
    }

    private static void notBackByItself() {
        Check.sentence("a call whose mast is ON stays with it, also if a nearer one comes back");
        Mastline line = new Mastline();
        Scene.sunMast(line, 1, 0);
        Scene.gridMast(line, 55, 10, 10);
        Scene.calls(line, 50, 1);
        line.pass(1);
        Check.due("handed over", "50 1 0 0 1", () -> Check.phone(line, 0));
        line.sun(10);
        line.pass(5);
        Check.due("the nearer one is ON", 1, () -> line.ofMast(0, 0));
        Check.due("it stays", "50 1 0 0 1", () -> Check.phone(line, 0));
    }
}
