/** Promises 8 and 9: how long a cable's way is, and its trays. */
public final class WaysTest {
    private static final Due DUE = new Due("WaysTest");

    public static void main(String[] args) {
        loose();
        shortestWay();
        firstOfSeveral();
        otherWayRound();
        besideOneAnother();
        newTrays();
        longestWay();
        badArguments();
        DUE.end();
    }

    private static void wayIs(String what, CableSizes x, int cable, int length, int... trays) {
        DUE.same(what + ": length", x.way(cable), length);
        for (int k = 0; k < trays.length; k++) {
            DUE.same(what + ": tray " + k, x.way(cable, k), trays[k]);
        }
        DUE.same(what + ": behind the last", x.way(cable, trays.length), CableSizes.NONE);
        DUE.same(what + ": far behind", x.way(cable, Integer.MAX_VALUE), CableSizes.NONE);
    }

    private static void loose() {
        CableSizes x = new CableSizes();
        x.cable(0, 1, 1);
        wayIs("no trays", x, 0, CableSizes.NONE);
        x.tray(1, 2, 1, 1);
        x.tray(3, 0, 1, 1);
        wayIs("trays apart", x, 0, CableSizes.NONE);
    }

    private static void shortestWay() {
        CableSizes x = new CableSizes();
        x.tray(0, 1, 10, 1);
        x.tray(0, 2, 3, 1);
        x.tray(2, 3, 3, 1);
        x.tray(3, 1, 3, 1);
        x.cable(0, 1, 1);
        wayIs("three short ones", x, 0, 9, 1, 2, 3);
    }

    private static void firstOfSeveral() {
        CableSizes x = new CableSizes();
        x.tray(2, 3, 5, 1);
        x.tray(0, 1, 5, 1);
        x.tray(0, 2, 5, 1);
        x.tray(1, 3, 5, 1);
        x.cable(0, 3, 1);
        wayIs("the first tray decides", x, 0, 10, 1, 3);
        x.cable(3, 0, 1);
        wayIs("backwards the other one", x, 1, 10, 0, 2);
        CableSizes y = new CableSizes();
        y.tray(0, 1, 4, 1);
        y.tray(0, 3, 9, 1);
        y.tray(1, 2, 2, 1);
        y.tray(2, 3, 3, 1);
        y.cable(0, 3, 1);
        wayIs("more trays, but the first is lower", y, 0, 9, 0, 2, 3);
        y.tray(1, 3, 5, 1);
        wayIs("the second tray decides", y, 0, 9, 0, 2, 3);
    }

    private static void otherWayRound() {
        CableSizes x = new CableSizes();
        x.tray(1, 0, 2, 1);
        x.tray(2, 1, 3, 1);
        x.cable(0, 2, 1);
        x.cable(2, 0, 1);
        wayIs("there", x, 0, 5, 0, 1);
        wayIs("back", x, 1, 5, 1, 0);
    }

    private static void besideOneAnother() {
        CableSizes x = new CableSizes();
        x.tray(0, 1, 7, 1);
        x.tray(0, 1, 5, 1);
        x.tray(1, 0, 5, 1);
        x.cable(0, 1, 1);
        wayIs("first of the shorter ones", x, 0, 5, 1);
    }

    private static void newTrays() {
        CableSizes x = new CableSizes();
        x.cable(4, 6, 1);
        x.tray(4, 5, 50, 1);
        wayIs("half a way", x, 0, CableSizes.NONE);
        x.tray(5, 6, 50, 1);
        wayIs("a way", x, 0, 100, 0, 1);
        x.tray(4, 6, 100, 1);
        wayIs("as long, but higher", x, 0, 100, 0, 1);
        x.tray(6, 4, 99, 1);
        wayIs("a shorter one", x, 0, 99, 3);
    }

    private static void longestWay() {
        CableSizes x = new CableSizes();
        for (int node = 9; node > 0; node--) {
            x.tray(node - 1, node, 100, 1);
        }
        x.cable(0, 9, 1);
        wayIs("through all nodes", x, 0, 900, 8, 7, 6, 5, 4, 3, 2, 1, 0);
    }

    private static void badArguments() {
        CableSizes x = new CableSizes();
        x.tray(0, 1, 7, 1);
        x.cable(0, 1, 1);
        DUE.illegalArgument("way(-1)", () -> x.way(-1));
        DUE.illegalArgument("way(1)", () -> x.way(1));
        DUE.illegalArgument("way(20)", () -> x.way(20));
        DUE.illegalArgument("way(0, -1)", () -> x.way(0, -1));
        DUE.illegalArgument("way(-1, 0)", () -> x.way(-1, 0));
        DUE.illegalArgument("way(1, 0)", () -> x.way(1, 0));
        x.cable(5, 6, 1);
        DUE.illegalArgument("way(1, -1) of a loose one", () -> x.way(1, -1));
    }
}
