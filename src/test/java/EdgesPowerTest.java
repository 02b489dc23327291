/** The sentences on masts and their power, each with its edges. */
public final class EdgesPowerTest {
    public static void main(String[] args) {
        eightMasts();
        panels();
        battery();
        emptyAtFirst();
        onIfItHasALease();
        notOutInTheLatestHour();
        aNewOneWasNot();
        norOneWithoutALease();
        panelsTimesSun();
        needs();
        carriesAsTheHourBegins();
        keptInTheBattery();
        ofTheGrid();
        outInThisHour();
        allUnitsWhenOut();
        Check.end("EdgesPowerTest");
    }

    /** A mast at place 50 that is not on the grid, whose battery has so many units, at hour 1; the sun is 0. */
    private static Mastline withUnits(int units, int panels, int battery, boolean grid) {
        Mastline line = new Mastline();
        int mast = line.mast(50, 10, 10, panels, battery, grid);
        line.lease(mast, 0, -1, 10, Scene.LAST_HOUR, 0, 0);
        line.sun(10);
        line.pass(1);
        Check.due("as prepared", units, () -> line.ofMast(mast, 2));
        line.sun(0);
        return line;
    }

    private static void eightMasts() {
        Check.sentence("Masts are numbered from 0, up to 8");
        Mastline line = new Mastline();
        for (int mast = 0; mast < 8; mast++) {
            int m = mast;
            Check.due("mast " + m, m, () -> line.mast(10 * m, 3, 1, 0, 0, false));
            Check.due("no mast after " + m, Check.BOUNDS, () -> line.ofMast(m + 1, 0));
        }
        Check.due("a ninth one", Check.STATE, () -> line.mast(80, 3, 1, 0, 0, false));
        Check.due("no ninth one", Check.BOUNDS, () -> line.ofMast(8, 0));
    }

    private static void panels() {
        Check.sentence("has panels, 0 to 10");
        for (int panels = 0; panels <= 10; panels++) {
            int p = panels;
            Mastline line = new Mastline();
            Scene.sunMast(line, p, 100);
            line.sun(10);
            line.pass(1);
            Check.due(p + " panels", p == 0 ? "0 0 0 0 0 10000" : "1 0 " + (10 * p - 2) + " 0 0 10000",
                    () -> Check.mast(line, 0));
        }
    }

    private static void battery() {
        Check.sentence("a battery that holds so many units, 0 to 100");
        for (int battery = 0; battery <= 100; battery++) {
            int b = battery;
            Mastline line = new Mastline();
            Scene.sunMast(line, 10, b);
            line.sun(10);
            line.pass(1);
            Check.due(b + " units, after an hour with 98 too many", Math.min(b, 98), () -> line.ofMast(0, 2));
            line.pass(1);
            Check.due(b + " units, after another one", b, () -> line.ofMast(0, 2));
        }
    }

    private static void emptyAtFirst() {
        Check.sentence("and is empty at first");
        for (int battery : new int[] {0, 1, 2, 100}) {
            Mastline line = new Mastline();
            line.mast(50, 10, 10, 0, battery, false);
            Check.due(battery + " units, set up", 0, () -> line.ofMast(0, 2));
            line.lease(0, 0, -1, 10, 9, 0, 0);
            Check.due(battery + " units, leased", 0, () -> line.ofMast(0, 2));
            line.pass(1);
            Check.due(battery + " units, after an hour", "0 0 0 0 0 9", () -> Check.mast(line, 0));
        }
    }

    private static void onIfItHasALease() {
        Check.sentence("It is ON, if it has a lease");
        Mastline line = new Mastline();
        line.mast(50, 10, 10, 10, 100, true);
        line.sun(10);
        Check.due("set up", 0, () -> line.ofMast(0, 0));
        line.pass(1);
        Check.due("on the grid and in the sun", "0 0 0 0 0 -1", () -> Check.mast(line, 0));
        line.lease(0, 0, -1, 10, 2, 0, 0);
        Check.due("leased", 1, () -> line.ofMast(0, 0));
        line.pass(1);
        Check.due("its lease ended", 0, () -> line.ofMast(0, 0));
        line.lease(0, 0, -1, 10, 3, 0, 0);
        Check.due("leased again", 1, () -> line.ofMast(0, 0));
    }

    private static void notOutInTheLatestHour() {
        Check.sentence("and was not OUT in the latest hour that went by, whatever lease it had then");
        Mastline line = new Mastline();
        line.mast(50, 10, 10, 0, 0, false);
        line.lease(0, 0, -1, 10, 1, 0, 0);
        line.pass(1);
        Check.due("OUT, and the lease ended", 0, () -> line.ofMast(0, 0));
        line.lease(0, 1, 2, 5, 3, 0, 0);
        Check.due("a lease anew", 0, () -> line.ofMast(0, 0));
        Check.due("it covers nothing", 100, line::holes);
        line.phone(50);
        Check.due("it carries nothing", -1, () -> line.call(0));
        line.pass(1);
        Check.due("OUT again", 0, () -> line.ofMast(0, 0));
        line.pass(1);
        line.lease(0, 0, -1, 10, 9, 0, 0);
        Check.due("a third lease", 0, () -> line.ofMast(0, 0));
        Mastline sunny = withUnits(8, 1, 50, false);
        sunny.pass(4);
        Check.due("its last hour with enough units", "1 0 0 0 0 10000", () -> Check.mast(sunny, 0));
        sunny.pass(1);
        Check.due("an hour without", 0, () -> sunny.ofMast(0, 0));
        sunny.sun(2);
        Check.due("the sun alone changes nothing", 0, () -> sunny.ofMast(0, 0));
        sunny.pass(1);
        Check.due("an hour with enough units again", 1, () -> sunny.ofMast(0, 0));
    }

    private static void aNewOneWasNot() {
        Check.sentence("a new one was not");
        Mastline line = new Mastline();
        Scene.sunMast(line, 0, 0);
        line.pass(1);
        line.mast(50, 10, 10, 0, 0, false);
        line.lease(1, 0, -1, 10, 9, 0, 0);
        Check.due("the elder one is OUT", 0, () -> line.ofMast(0, 0));
        Check.due("the new one is ON", 1, () -> line.ofMast(1, 0));
        line.pass(1);
        Check.due("it is OUT after its first hour", 0, () -> line.ofMast(1, 0));
    }

    private static void norOneWithoutALease() {
        Check.sentence("nor is one without a lease in that hour");
        Mastline line = new Mastline();
        line.mast(50, 10, 10, 0, 0, false);
        line.lease(0, 0, -1, 10, 1, 0, 0);
        line.pass(1);
        line.pass(1);
        Check.due("without a lease", 0, () -> line.ofMast(0, 0));
        line.lease(0, 0, -1, 10, 9, 0, 0);
        Check.due("a lease after one hour without", "1 0 0 0 0 9", () -> Check.mast(line, 0));
        Check.due("it covers its places", 79, line::holes);
    }

    private static void panelsTimesSun() {
        Check.sentence("In an hour a mast with a lease gets as many units as it has panels, times the sun of that hour");
        for (int panels = 0; panels <= 10; panels++) {
            for (int sun = 0; sun <= 10; sun++) {
                int all = panels * sun;
                Mastline line = new Mastline();
                line.mast(50, 10, 10, panels, 100, true);
                line.lease(0, 0, -1, 10, 9, 0, 0);
                line.sun(sun);
                line.pass(1);
                Check.due(panels + " panels, sun " + sun, "1 0 " + Math.max(all - 2, 0) + " " + Math.max(2 - all, 0)
                        + " 0 9", () -> Check.mast(line, 0));
            }
        }
        Mastline line = new Mastline();
        line.mast(50, 10, 10, 10, 100, false);
        line.sun(10);
        line.pass(5);
        Check.due("a mast without a lease gets none", 0, () -> line.ofMast(0, 2));
    }

    private static void needs() {
        Check.sentence("with what the battery has it needs 2 units, and 1 for each call that it carries");
        for (int calls = 0; calls <= 10; calls++) {
            int c = calls;
            int need = 2 + calls;
            Mastline grid = new Mastline();
            Scene.gridMast(grid, 50, 10, 10);
            Scene.calls(grid, 50, c);
            grid.pass(1);
            Check.due(c + " calls, all of the grid", "1 " + c + " 0 " + need + " " + c + " 10000",
                    () -> Check.mast(grid, 0));
            Mastline enough = withUnits(need, 10, need, false);
            Scene.calls(enough, 50, c);
            enough.pass(1);
            Check.due(c + " calls, just enough", "1 " + c + " 0 0 " + c + " 10000", () -> Check.mast(enough, 0));
            Mastline less = withUnits(need - 1, 10, need - 1, false);
            Scene.calls(less, 50, c);
            less.pass(1);
            Check.due(c + " calls, one unit lacks", "0 0 " + (need - 1) + " 0 " + c + " 10000",
                    () -> Check.mast(less, 0));
            Mastline more = withUnits(need + 1, 10, need + 1, false);
            Scene.calls(more, 50, c);
            more.pass(1);
            Check.due(c + " calls, one unit more", "1 " + c + " 1 0 " + c + " 10000", () -> Check.mast(more, 0));
        }
        for (int sun = 1; sun <= 3; sun++) {
            Mastline both = withUnits(3, 1, 3, false);
            Scene.calls(both, 50, 3);
            both.sun(sun);
            both.pass(1);
            Check.due("3 units and " + sun + " for 3 calls", sun == 1 ? "0 0 3 0 3 10000" : "1 3 " + (sun - 2)
                    + " 0 3 10000", () -> Check.mast(both, 0));
        }
    }

    private static void carriesAsTheHourBegins() {
        Check.sentence("1 for each call that it carries as the hour begins");
        Mastline line = new Mastline();
        Scene.sunMast(line, 0, 0);
        Scene.gridMast(line, 50, 10, 10);
        Scene.calls(line, 50, 2);
        Check.due("the call of before the hour", 0, () -> line.ofPhone(0, 1));
        line.pass(1);
        Check.due("handed over as the hour ends", "1 2 0 2 0 10000", () -> Check.mast(line, 1));
        line.pass(1);
        Check.due("carried as the next one begins", "1 2 0 6 2 10000", () -> Check.mast(line, 1));
        line.end(0);
        line.pass(1);
        Check.due("ended before the hour", "1 1 0 9 3 10000", () -> Check.mast(line, 1));
        line.call(0);
        line.end(0);
        line.pass(1);
        Check.due("called and ended before the hour", "1 1 0 12 4 10000", () -> Check.mast(line, 1));
    }

    private static void keptInTheBattery() {
        Check.sentence("what is more than that is kept in the battery, as far as that holds it");
        for (int battery = 6; battery <= 10; battery++) {
            int b = battery;
            Mastline line = withUnits(Math.min(8, b), 1, b, false);
            line.sun(4);
            line.pass(1);
            Check.due("2 units more, of " + b, b, () -> line.ofMast(0, 2));
            line.sun(2);
            line.pass(1);
            Check.due("none more, of " + b, b, () -> line.ofMast(0, 2));
            line.sun(1);
            line.pass(1);
            Check.due("one less, of " + b, b - 1, () -> line.ofMast(0, 2));
            line.sun(3);
            line.pass(1);
            Check.due("one more, of " + b, b, () -> line.ofMast(0, 2));
        }
        Mastline none = withUnits(0, 1, 0, false);
        none.sun(3);
        none.pass(1);
        Check.due("a battery of 0 keeps none", "1 0 0 0 0 10000", () -> Check.mast(none, 0));
        Mastline grid = withUnits(5, 1, 5, true);
        grid.sun(2);
        grid.pass(1);
        Check.due("one on the grid keeps them too", "1 0 5 0 0 10000", () -> Check.mast(grid, 0));
    }

    private static void ofTheGrid() {
        Check.sentence("If there is not so much, what lacks comes of the grid, if it is on that");
        for (int units = 0; units <= 8; units++) {
            int u = units;
            Mastline line = withUnits(units, 1, units, true);
            Scene.calls(line, 50, 3);
            line.pass(1);
            Check.due(u + " units for 3 calls", "1 3 " + Math.max(u - 5, 0) + " " + Math.max(5 - u, 0) + " 3 10000",
                    () -> Check.mast(line, 0));
            line.pass(1);
            int all = Math.max(10 - u, 0);
            Check.due(u + " units for 3 calls, after another hour", "1 3 0 " + all + " 6 10000",
                    () -> Check.mast(line, 0));
        }
        Mastline sun = withUnits(1, 1, 1, true);
        sun.sun(3);
        Scene.calls(sun, 50, 3);
        sun.pass(1);
        Check.due("1 unit, 3 of the sun, 1 of the grid", "1 3 0 1 3 10000", () -> Check.mast(sun, 0));
    }

    private static void outInThisHour() {
        Check.sentence("otherwise it is OUT in this hour");
        for (int sun = 0; sun <= 3; sun++) {
            Mastline line = withUnits(0, 1, 0, false);
            line.sun(sun);
            line.pass(1);
            Check.due("sun " + sun, (sun < 2 ? "0" : "1") + " 0 0 0 0 10000", () -> Check.mast(line, 0));
            line.sun(2);
            line.pass(1);
            Check.due("in the next one not any more", 1, () -> line.ofMast(0, 0));
        }
        Mastline dark = new Mastline();
        Scene.sunMast(dark, 10, 100);
        Scene.pass(dark, 300);
        Check.due("OUT for many hours, without a unit of the grid", "0 0 0 0 0 10000", () -> Check.mast(dark, 0));
        dark.sun(1);
        dark.pass(1);
        Check.due("and ON again", "1 0 8 0 0 10000", () -> Check.mast(dark, 0));
    }

    private static void allUnitsWhenOut() {
        Check.sentence("and the battery has all units, as far as that holds them");
        for (int battery = 0; battery <= 8; battery++) {
            int b = battery;
            Mastline line = withUnits(b, 1, b, false);
            Scene.calls(line, 50, 10);
            line.sun(3);
            line.pass(1);
            Check.due("a full battery of " + b + " and 3 more", "0 0 " + b + " 0 10 10000", () -> Check.mast(line, 0));
        }
        for (int battery = 8; battery <= 13; battery++) {
            int kept = Math.min(battery, 11);
            Mastline line = withUnits(8, 1, battery, false);
            Scene.calls(line, 50, 10);
            line.sun(3);
            line.pass(1);
            Check.due("8 units and 3 more, of " + battery, "0 0 " + kept + " 0 10 10000", () -> Check.mast(line, 0));
        }
        Mastline saves = new Mastline();
        Scene.sunMast(saves, 1, 100);
        saves.sun(1);
        for (int hour = 1; hour <= 8; hour++) {
            int h = hour;
            saves.pass(1);
            Check.due("one unit in each hour, after hour " + h, h % 2 == 1 ? "0 0 1 0 0 10000" : "1 0 0 0 0 10000",
                    () -> Check.mast(saves, 0));
        }
    }
}
