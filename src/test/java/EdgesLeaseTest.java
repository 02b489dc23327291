/** The sentences on leases, rents and shares, each with its edges. */
public final class EdgesLeaseTest {
    public static void main(String[] args) {
        oneOrTwoFarmers();
        untilAnHour();
        aboveTheHour();
        rentForEachHour();
        rentForEachHourOfACall();
        bothTogetherRoundedDown();
        tenthsWithoutAnOther();
        madeAnewWhenThereIsNone();
        rentsOfAnHourThatIsOut();
        noSuchFarmer();
        Check.end("EdgesLeaseTest");
    }

    private static Mastline leased(int farmer, int other, int tenths, int until, int rent, int byCall) {
        Mastline line = new Mastline();
        line.mast(50, 10, 10, 0, 0, true);
        line.lease(0, farmer, other, tenths, until, rent, byCall);
        return line;
    }

    private static String shares(int farmer, int first, int other, int rest) {
        StringBuilder all = new StringBuilder();
        for (int f = 0; f < 6; f++) {
            all.append(f == 0 ? "" : " ").append(f == farmer ? first : f == other ? rest : 0);
        }
        return all.toString();
    }

    private static void oneOrTwoFarmers() {
        Check.sentence("A lease of a mast is from one or two of the farmers 0 to 5");
        for (int farmer = 0; farmer < 6; farmer++) {
            for (int other = -1; other < 6; other++) {
                if (farmer != other) {
                    Mastline line = leased(farmer, other, other < 0 ? 10 : 4, 9, 20, 0);
                    line.pass(1);
                    Check.due(farmer + " and " + other, shares(farmer, other < 0 ? 20 : 8, other, 12),
                            () -> Check.paid(line));
                }
            }
        }
    }

    private static void untilAnHour() {
        Check.sentence("until an hour, not included");
        for (int until : new int[] {1, 2, 3, 99, 100, 101, 9999, 10000}) {
            Mastline line = leased(0, -1, 10, until, 1, 0);
            Scene.pass(line, until - 1);
            Check.due("in its last hour", "1 0 0 " + 2 * (until - 1) + " 0 " + until, () -> Check.mast(line, 0));
            line.pass(1);
            Check.due("in the hour " + until, "0 0 0 " + 2 * until + " 0 -1", () -> Check.mast(line, 0));
            Check.due("rents until " + until, until, () -> line.paid(0));
            if (until < Scene.LAST_HOUR) {
                line.pass(1);
                Check.due("no rent after " + until, until, () -> line.paid(0));
                Check.due("no power after " + until, 2 * until, () -> line.ofMast(0, 3));
            }
        }
        Mastline within = leased(0, -1, 10, 37, 1, 0);
        within.pass(100);
        Check.due("within one pass", "37 0 0 0 0 0", () -> Check.paid(within));
        Mastline later = Scene.at(40);
        later.mast(50, 10, 10, 0, 0, true);
        later.lease(0, 0, -1, 10, 43, 1, 0);
        later.pass(10);
        Check.due("from 40 until 43", "3 0 0 0 0 0", () -> Check.paid(later));
    }

    private static void aboveTheHour() {
        Check.sentence("until: above the hour, to 10000");
        for (int hour : new int[] {0, 1, 99, 100, 5000, 9998, 9999, 10000}) {
            for (int until : new int[] {hour - 1, hour, hour + 1, hour + 2, 9999, 10000, 10001}) {
                Mastline line = Scene.at(hour);
                line.mast(50, 10, 10, 0, 0, true);
                boolean holds = until > hour && until <= Scene.LAST_HOUR;
                Check.dueAct("in the hour " + hour + ", until " + until, holds ? "nothing" : Check.ARGUMENT,
                        () -> line.lease(0, 0, -1, 10, until, 1, 1));
                Check.due("its end", holds ? until : -1, () -> line.ofMast(0, 5));
            }
        }
    }

    private static void rentForEachHour() {
        Check.sentence("with a rent for each hour; rent: 0 to 1000");
        for (int rent : new int[] {0, 1, 999, 1000}) {
            Mastline line = leased(3, -1, 10, 10000, rent, 0);
            Check.due(rent + ", no hour yet", 0, () -> line.paid(3));
            line.pass(1);
            Check.due(rent + ", one hour", rent, () -> line.paid(3));
            Scene.pass(line, 9999);
            Check.due(rent + ", all hours there can be", 10000 * rent, () -> line.paid(3));
        }
    }

    private static void rentForEachHourOfACall() {
        Check.sentence("and one for each hour of a call that is carried; byCall: 0 to 100");
        for (int byCall : new int[] {0, 1, 99, 100}) {
            for (int calls = 0; calls <= 10; calls++) {
                Mastline line = leased(3, -1, 10, 10000, 0, byCall);
                Scene.calls(line, 50, calls);
                line.pass(1);
                Check.due(byCall + " for " + calls + " calls", byCall * calls, () -> line.paid(3));
            }
        }
        Mastline line = leased(3, -1, 10, 10000, 0, 5);
        Scene.calls(line, 50, 2);
        line.end(0);
        Check.due("calls of no hours", 0, () -> line.paid(3));
        line.pass(1);
        Check.due("a call that was ended is not carried", 5, () -> line.paid(3));
        Mastline all = new Mastline();
        for (int mast = 0; mast < 8; mast++) {
            all.mast(50, 10, 10, 0, 0, true);
            all.lease(mast, 5, -1, 10, 10000, 1000, 100);
        }
        Scene.calls(all, 50, 12);
        Scene.pass(all, 10000);
        Check.due("the most that there can be", 10000 * (8 * 1000 + 12 * 100), () -> all.paid(5));
    }

    private static void bothTogetherRoundedDown() {
        Check.sentence("Of both rents of an hour, together, the first farmer has some tenths, rounded down, the other"
                + " one the rest");
        for (int tenths = 0; tenths <= 10; tenths++) {
            for (int both = 0; both <= 21; both++) {
                int first = both * tenths / 10;
                String want = shares(4, first, 1, both - first);
                Mastline alone = leased(4, 1, tenths, 9, both, 0);
                alone.pass(1);
                Check.due(tenths + " tenths of " + both, want, () -> Check.paid(alone));
                if (both > 0) {
                    Mastline together = leased(4, 1, tenths, 9, both - 1, 1);
                    Scene.calls(together, 50, 1);
                    together.pass(1);
                    Check.due(tenths + " tenths of " + (both - 1) + " and 1", want, () -> Check.paid(together));
                }
            }
        }
        Mastline most = leased(0, 5, 9, 9, 1000, 100);
        Scene.calls(most, 50, 10);
        most.pass(1);
        Check.due("9 tenths of the most", "1800 0 0 0 0 200", () -> Check.paid(most));
        Mastline each = leased(0, 5, 9, 9, 1, 0);
        each.pass(5);
        Check.due("rounded down in each hour", "0 0 0 0 0 5", () -> Check.paid(each));
        Mastline two = leased(0, 5, 5, 9, 1, 0);
        two.mast(50, 10, 10, 0, 0, true);
        two.lease(1, 0, 5, 5, 9, 1, 0);
        two.pass(1);
        Check.due("rounded down for each mast", "0 0 0 0 0 2", () -> Check.paid(two));
    }

    private static void tenthsWithoutAnOther() {
        Check.sentence("tenths: 10, if there is no other one");
        for (int tenths = -1; tenths <= 11; tenths++) {
            int t = tenths;
            Mastline line = new Mastline();
            line.mast(50, 10, 10, 0, 0, true);
            Check.dueAct(t + " tenths", t == 10 ? "nothing" : Check.ARGUMENT, () -> line.lease(0, 2, -1, t, 9, 7, 1));
            line.pass(1);
            Check.due(t + " tenths, paid", t == 10 ? "0 0 7 0 0 0" : "0 0 0 0 0 0", () -> Check.paid(line));
        }
        Mastline all = leased(2, 3, 10, 9, 7, 1);
        all.pass(1);
        Check.due("with another one, who gets nothing", "0 0 7 0 0 0", () -> Check.paid(all));
        Mastline none = leased(2, 3, 0, 9, 7, 1);
        none.pass(1);
        Check.due("with another one, who gets all", "0 0 0 7 0 0", () -> Check.paid(none));
    }

    private static void madeAnewWhenThereIsNone() {
        Check.sentence("A lease can be made anew when there is none");
        Mastline line = leased(0, 1, 3, 2, 10, 0);
        Check.dueAct("at once", Check.STATE, () -> line.lease(0, 2, -1, 10, 9, 5, 0));
        line.pass(1);
        Check.dueAct("in its last hour", Check.STATE, () -> line.lease(0, 2, -1, 10, 9, 5, 0));
        line.pass(1);
        Check.dueAct("in the hour in which it ends", "nothing", () -> line.lease(0, 2, -1, 10, 3, 5, 0));
        Check.due("ON without a gap", 1, () -> line.ofMast(0, 0));
        Check.dueAct("when there is one again", Check.STATE, () -> line.lease(0, 2, -1, 10, 9, 5, 0));
        line.pass(4);
        Check.dueAct("hours later", "nothing", () -> line.lease(0, 3, 4, 5, 8, 3, 0));
        line.pass(2);
        Check.due("each has the rents of its own hours", "6 14 5 2 4 0", () -> Check.paid(line));
        for (int again = 0; again < 400; again++) {
            int until = 9 + again;
            Check.dueAct("once more", "nothing", () -> line.lease(0, 5, -1, 10, until, 2, 0));
            line.pass(1);
        }
        Check.due("many leases", 800, () -> line.paid(5));
    }

    private static void rentsOfAnHourThatIsOut() {
        Check.sentence("with a rent for each hour, also for one in which the mast is OUT");
        Mastline line = new Mastline();
        line.mast(50, 10, 10, 0, 0, false);
        line.lease(0, 2, -1, 10, 4, 10, 3);
        Scene.calls(line, 50, 2);
        line.pass(1);
        Check.due("the hour in which it becomes OUT, with its calls", 16, () -> line.paid(2));
        line.pass(1);
        Check.due("the next one", 26, () -> line.paid(2));
        line.pass(5);
        Check.due("until the end of the lease", 46, () -> line.paid(2));
    }

    private static void noSuchFarmer() {
        Check.sentence("paid: 0 to 5; IndexOutOfBoundsException if there is no such farmer");
        Mastline line = leased(5, 0, 5, 9, 10, 0);
        line.pass(1);
        for (int farmer = -2; farmer <= 7; farmer++) {
            int f = farmer;
            Check.due("farmer " + f, f < 0 || f > 5 ? Check.BOUNDS : f == 0 || f == 5 ? 5 : 0, () -> line.paid(f));
        }
    }
}
