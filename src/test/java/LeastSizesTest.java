/** Promises 10 to 14: settled, chosen, told, cableAt and copper. */
public final class LeastSizesTest {
    private static final Due DUE = new Due("LeastSizesTest");
    private static final int NONE = CableSizes.NONE;

    public static void main(String[] args) {
        withoutCables();
        withoutSizes();
        looseCables();
        pushedUp();
        oneForAll();
        factorSteps();
        fillAboveThousand();
        carryingIsRoundedDown();
        dropAndLimit();
        greatestDrop();
        leastFactorOnTheWay();
        noneDo();
        copperOverWays();
        changesAreSeen();
        fullHouse();
        settledWithoutCables();
        greatestCopper();
        looseBesideOthers();
        countedThoughNoneDo();
        badArguments();
        DUE.end();
    }

    private static void withoutCables() {
        CableSizes x = new CableSizes();
        x.tray(0, 1, 10, 1);
        DUE.holds("settled without cables", x.settled());
        DUE.same("fill", x.told(0, 0), 0);
        DUE.same("factor", x.told(0, 1), 1000);
        DUE.same("cables", x.told(0, 2), 0);
        DUE.same("copper", x.copper(), 0);
        x.limit(0);
        x.size(100, 1, 1000);
        DUE.holds("settled at limit 0", x.settled());
    }

    private static void withoutSizes() {
        CableSizes x = new CableSizes();
        x.tray(0, 1, 10, 1);
        x.cable(3, 4, 1);
        DUE.fails("a loose cable without sizes", x.settled());
        x.cable(0, 1, 1);
        DUE.fails("settled", x.settled());
        DUE.same("chosen", x.chosen(1), NONE);
        DUE.same("fill", x.told(0, 0), NONE);
        DUE.same("factor", x.told(0, 1), NONE);
        DUE.same("cables", x.told(0, 2), 1);
        DUE.same("drop", x.cableAt(1, 0), NONE);
        DUE.same("carries", x.cableAt(1, 1), NONE);
        DUE.same("loose, drop", x.cableAt(0, 0), NONE);
        DUE.same("loose, carries", x.cableAt(0, 1), NONE);
        DUE.same("copper", x.copper(), NONE);
    }

    private static void looseCables() {
        CableSizes x = new CableSizes();
        x.size(50, 3, 1000);
        x.size(60, 4, 900);
        x.limit(0);
        x.cable(3, 4, 1000);
        DUE.holds("settled", x.settled());
        DUE.same("chosen", x.chosen(0), 0);
        DUE.same("drop", x.cableAt(0, 0), 0);
        DUE.same("carries", x.cableAt(0, 1), 3);
        DUE.same("copper", x.copper(), 0);
    }

    /** The second cable's current fills the tray so that the first one needs a greater size too. */
    private static void pushedUp() {
        CableSizes x = new CableSizes();
        x.tray(0, 1, 10, 100);
        x.size(10, 10, 0);
        x.size(11, 13, 0);
        x.size(30, 40, 0);
        x.cable(0, 1, 10);
        x.cable(0, 1, 5);
        DUE.same("chosen(0)", x.chosen(0), 0);
        DUE.same("chosen(1)", x.chosen(1), 0);
        DUE.same("fill", x.told(0, 0), 200);
        DUE.same("current", x.current(1, 11), 5);
        DUE.same("pushed: chosen(0)", x.chosen(0), 2);
        DUE.same("pushed: chosen(1)", x.chosen(1), 2);
        DUE.same("pushed: fill", x.told(0, 0), 600);
        DUE.same("pushed: factor", x.told(0, 1), 650);
        DUE.same("current", x.current(0, 8), 10);
        DUE.same("less: chosen(0)", x.chosen(0), 0);
        DUE.same("less: chosen(1)", x.chosen(1), 2);
        DUE.same("less: fill", x.told(0, 0), 400);
        DUE.same("less: carries(0)", x.cableAt(0, 1), 8);
        DUE.same("less: carries(1)", x.cableAt(1, 1), 32);
    }

    /** A cable's own area lowers its factor: the size that suffices at first no longer does. */
    private static void oneForAll() {
        CableSizes x = new CableSizes();
        x.tray(0, 1, 10, 100);
        x.size(20, 10, 0);
        x.size(21, 12, 0);
        x.size(41, 15, 0);
        x.size(60, 17, 0);
        x.cable(0, 1, 11);
        DUE.same("passes the middle sizes by", x.chosen(0), 3);
        DUE.same("carries", x.cableAt(0, 1), 11);
        DUE.fails("right with 1", x.right(1));
        DUE.fails("right with 2", x.right(2));
    }

    private static void factorAt(int area, int room, int fill, int factor) {
        CableSizes x = new CableSizes();
        x.tray(0, 1, 1, room);
        x.size(area, 1000, 0);
        x.cable(0, 1, 1);
        String what = "area " + area + " in room " + room;
        DUE.same(what + ": fill", x.told(0, 0), fill);
        DUE.same(what + ": factor", x.told(0, 1), factor);
        DUE.same(what + ": carries", x.cableAt(0, 1), factor);
    }

    private static void factorSteps() {
        factorAt(1, 1000, 1, 1000);
        factorAt(100, 500, 200, 1000);
        factorAt(100, 498, 200, 1000);
        factorAt(100, 497, 201, 800);
        factorAt(100, 250, 400, 800);
        factorAt(100, 249, 401, 650);
        factorAt(60, 100, 600, 650);
        factorAt(98, 163, 601, 550);
        factorAt(80, 100, 800, 550);
        factorAt(97, 121, 801, 500);
        factorAt(100, 100, 1000, 500);
    }

    private static void fillAboveThousand() {
        CableSizes x = new CableSizes();
        x.tray(0, 1, 1, 1000);
        x.size(100, 1000, 0);
        for (int cable = 0; cable < 10; cable++) {
            x.cable(0, 1, 500);
        }
        DUE.holds("fill 1000", x.settled());
        DUE.same("fill 1000: factor", x.told(0, 1), 500);
        x.room(0, 999);
        for (int cable = 0; cable < 10; cable++) {
            x.current(cable, 1);
        }
        DUE.fails("fill 1001", x.settled());
        DUE.same("fill 1001: fill", x.told(0, 0), NONE);
        DUE.same("fill 1001: cables", x.told(0, 2), 10);
    }

    private static void carryingIsRoundedDown() {
        CableSizes x = new CableSizes();
        x.tray(0, 1, 1, 100);
        x.size(30, 13, 0);
        x.cable(0, 1, 10);
        DUE.same("13 times 800", x.cableAt(0, 1), 10);
        x.current(0, 11);
        DUE.fails("10.4 is less than 11", x.settled());
    }

    private static void dropAndLimit() {
        CableSizes x = new CableSizes();
        x.tray(0, 1, 3, 1000);
        x.tray(1, 2, 4, 1000);
        x.size(1, 1000, 500);
        x.size(2, 1000, 100);
        x.cable(0, 2, 3);
        DUE.same("3 * 500 * 7 by 1000", x.cableAt(0, 0), 10);
        x.limit(10);
        DUE.same("limit 10", x.chosen(0), 0);
        x.limit(9);
        DUE.same("limit 9", x.chosen(0), 1);
        DUE.same("3 * 100 * 7 by 1000", x.cableAt(0, 0), 2);
        x.limit(2);
        DUE.holds("limit 2", x.settled());
        x.limit(1);
        DUE.fails("limit 1", x.settled());
    }

    private static void greatestDrop() {
        CableSizes x = new CableSizes();
        for (int node = 0; node < 9; node++) {
            x.tray(node, node + 1, 100, 1000);
        }
        x.size(1, 1000, 1000);
        x.cable(0, 9, 1000);
        DUE.fails("at first the limit is 100000", x.settled());
        x.limit(900000);
        DUE.holds("limit 900000", x.settled());
        DUE.same("drop", x.cableAt(0, 0), 900000);
        DUE.same("copper", x.copper(), 900);
        x.limit(899999);
        DUE.fails("limit 899999", x.settled());
    }

    private static void leastFactorOnTheWay() {
        CableSizes x = new CableSizes();
        x.tray(0, 1, 1, 1000);
        x.tray(1, 2, 1, 10);
        x.tray(2, 3, 1, 20);
        x.size(5, 100, 0);
        x.cable(0, 3, 1);
        x.cable(0, 1, 1);
        DUE.same("factors", x.told(0, 1), 1000);
        DUE.same("factors", x.told(1, 1), 650);
        DUE.same("factors", x.told(2, 1), 800);
        DUE.same("the least of three", x.cableAt(0, 1), 65);
        DUE.same("on the first alone", x.cableAt(1, 1), 100);
        DUE.same("cables on the first", x.told(0, 2), 2);
        DUE.same("cables on the second", x.told(1, 2), 1);
    }

    private static void noneDo() {
        CableSizes x = new CableSizes();
        x.tray(0, 1, 1, 1000);
        x.tray(5, 6, 1, 1000);
        x.size(1, 10, 0);
        x.cable(0, 1, 11);
        x.cable(5, 6, 1);
        x.cable(7, 8, 1);
        DUE.fails("settled", x.settled());
        for (int cable = 0; cable < 3; cable++) {
            DUE.same("chosen", x.chosen(cable), NONE);
            DUE.same("drop", x.cableAt(cable, 0), NONE);
            DUE.same("carries", x.cableAt(cable, 1), NONE);
        }
        DUE.same("fill", x.told(1, 0), NONE);
        DUE.same("factor", x.told(1, 1), NONE);
        DUE.same("cables", x.told(1, 2), 1);
        DUE.same("copper", x.copper(), NONE);
    }

    private static void copperOverWays() {
        CableSizes x = new CableSizes();
        x.tray(0, 1, 3, 1000);
        x.tray(1, 2, 4, 1000);
        x.size(2, 10, 0);
        x.size(5, 20, 0);
        x.cable(0, 2, 10);
        x.cable(2, 1, 20);
        x.cable(8, 9, 20);
        DUE.same("2 * 7 + 5 * 4", x.copper(), 34);
    }

    private static void changesAreSeen() {
        CableSizes x = new CableSizes();
        x.cable(0, 1, 15);
        DUE.fails("no size", x.settled());
        x.size(10, 10, 10);
        DUE.holds("a size, loose", x.settled());
        x.tray(0, 1, 10, 1000);
        DUE.fails("in a tray", x.settled());
        x.size(20, 20, 10);
        DUE.same("a greater size", x.chosen(0), 1);
        DUE.same("copper", x.copper(), 200);
        x.cable(1, 0, 20);
        DUE.same("another cable", x.copper(), 400);
        DUE.same("its fill", x.told(0, 0), 40);
        x.room(0, 100);
        DUE.fails("less room", x.settled());
        x.current(1, 16);
        DUE.holds("less current", x.settled());
        x.limit(0);
        DUE.fails("no drop allowed", x.settled());
        x.limit(1);
        DUE.holds("some drop allowed", x.settled());
    }

    /** All sizes, cables and trays that there may be, the trays last. */
    private static void fullHouse() {
        CableSizes x = new CableSizes();
        for (int size = 0; size < 6; size++) {
            x.size(size + 1, (size + 1) * 10, 0);
        }
        for (int cable = 0; cable < 20; cable++) {
            x.cable(cable % 9, cable % 9 + 1, (cable % 6 + 1) * 10);
        }
        for (int tray = 0; tray < 9; tray++) {
            DUE.same("tray " + tray, x.tray(tray + 1, tray, 10, 1000), tray);
        }
        for (int tray = 9; tray < 15; tray++) {
            DUE.same("tray " + tray, x.tray(0, 9, 100, 1000), tray);
        }
        DUE.holds("full: settled", x.settled());
        for (int cable = 0; cable < 20; cable++) {
            DUE.same("full: way of " + cable, x.way(cable, 0), cable % 9);
            DUE.same("full: chosen " + cable, x.chosen(cable), cable % 6);
            DUE.same("full: carries " + cable, x.cableAt(cable, 1), (cable % 6 + 1) * 10);
        }
        for (int tray = 0; tray < 15; tray++) {
            DUE.same("full: cables of " + tray, x.told(tray, 2), tray < 2 ? 3 : tray < 9 ? 2 : 0);
        }
        DUE.same("full: fill of 8", x.told(8, 0), 9);
        DUE.same("full: copper", x.copper(), 660);
        x.current(19, 61);
        DUE.fails("full: too much for the last", x.settled());
    }

    /** "Also without cables": with and without trays and sizes. */
    private static void settledWithoutCables() {
        for (int trays = 0; trays <= 15; trays += 5) {
            for (int sizes = 0; sizes <= 6; sizes += 3) {
                CableSizes x = new CableSizes();
                for (int tray = 0; tray < trays; tray++) {
                    x.tray(0, 1, 1, 1);
                }
                for (int size = 0; size < sizes; size++) {
                    x.size(size + 1, 1, 1000);
                }
                x.limit(0);
                String what = "no cables, " + trays + " trays, " + sizes + " sizes";
                DUE.holds(what + ": settled", x.settled());
                DUE.same(what + ": copper", x.copper(), 0);
                DUE.holds(what + ": right", x.right(0));
                for (int tray = 0; tray < trays; tray++) {
                    DUE.same(what + ": fill", x.told(tray, 0), 0);
                    DUE.same(what + ": factor", x.told(tray, 1), 1000);
                    DUE.same(what + ": cables", x.told(tray, 2), 0);
                }
                x.cable(0, 1, 1);
                DUE.same(what + ", then one: settled", x.settled() ? 1 : 0, sizes > 0 && trays == 0 ? 1 : 0);
            }
        }
    }

    private static void greatestCopper() {
        CableSizes x = new CableSizes();
        for (int node = 0; node < 9; node++) {
            x.tray(node, node + 1, 100, 1000);
        }
        x.size(100, 1000, 0);
        for (int cable = 0; cable < 10; cable++) {
            x.cable(cable % 2 == 0 ? 0 : 9, cable % 2 == 0 ? 9 : 0, 500);
        }
        DUE.same("ten through all trays", x.copper(), 10 * 100 * 900);
        DUE.same("ten through all trays: cables", x.told(4, 2), 10);
        x.cable(4, 5, 1);
        DUE.same("eleven in one tray", x.copper(), NONE);
        DUE.same("eleven in one tray: cables", x.told(4, 2), 11);
    }

    /** "0 when it is loose", "its rating when it is loose": its size is the least of all, whatever the others need. */
    private static void looseBesideOthers() {
        CableSizes x = new CableSizes();
        x.tray(0, 1, 10, 100);
        x.size(21, 37, 1000);
        x.size(50, 800, 10);
        x.cable(5, 6, 1000);
        x.cable(0, 1, 300);
        x.cable(6, 5, 1);
        DUE.same("in the tray: chosen", x.chosen(1), 1);
        DUE.same("in the tray: carries", x.cableAt(1, 1), 520);
        DUE.same("in the tray: drop", x.cableAt(1, 0), 30);
        DUE.same("fill without the loose ones", x.told(0, 0), 500);
        for (int cable = 0; cable <= 2; cable += 2) {
            DUE.same("loose: chosen", x.chosen(cable), 0);
            DUE.same("loose: drop", x.cableAt(cable, 0), 0);
            DUE.same("loose: its rating", x.cableAt(cable, 1), 37);
        }
        DUE.same("copper without the loose ones", x.copper(), 500);
        x.current(1, 1000);
        DUE.same("none do: loose, chosen", x.chosen(0), NONE);
        DUE.same("none do: loose, drop", x.cableAt(0, 0), NONE);
        DUE.same("none do: loose, carries", x.cableAt(0, 1), NONE);
    }

    /** "How many cables go through it (also if there are no least sizes)": from none to all twenty. */
    private static void countedThoughNoneDo() {
        CableSizes x = new CableSizes();
        x.tray(0, 1, 10, 1);
        x.tray(1, 2, 10, 1000);
        x.tray(8, 9, 10, 1000);
        for (int cable = 0; cable < 20; cable++) {
            x.cable(cable % 2, 2, 1000);
            DUE.same("without sizes: through 0", x.told(0, 2), cable / 2 + 1);
            DUE.same("without sizes: through 1", x.told(1, 2), cable + 1);
            DUE.same("without sizes: through 2", x.told(2, 2), 0);
        }
        x.size(100, 1000, 1000);
        DUE.fails("too full", x.settled());
        DUE.same("too full: through 0", x.told(0, 2), 10);
        DUE.same("too full: through 1", x.told(1, 2), 20);
        for (int tray = 0; tray < 3; tray++) {
            DUE.same("too full: fill of " + tray, x.told(tray, 0), NONE);
            DUE.same("too full: factor of " + tray, x.told(tray, 1), NONE);
        }
    }

    private static void badArguments() {
        CableSizes x = new CableSizes();
        x.tray(0, 1, 3, 1000);
        x.size(2, 10, 0);
        x.cable(0, 1, 10);
        DUE.illegalArgument("chosen(-1)", () -> x.chosen(-1));
        DUE.illegalArgument("chosen(1)", () -> x.chosen(1));
        DUE.illegalArgument("told(-1, 0)", () -> x.told(-1, 0));
        DUE.illegalArgument("told(1, 2)", () -> x.told(1, 2));
        DUE.illegalArgument("told(0, -1)", () -> x.told(0, -1));
        DUE.illegalArgument("told(0, 3)", () -> x.told(0, 3));
        DUE.illegalArgument("cableAt(-1, 0)", () -> x.cableAt(-1, 0));
        DUE.illegalArgument("cableAt(1, 0)", () -> x.cableAt(1, 0));
        DUE.illegalArgument("cableAt(0, -1)", () -> x.cableAt(0, -1));
        DUE.illegalArgument("cableAt(0, 2)", () -> x.cableAt(0, 2));
    }
}
