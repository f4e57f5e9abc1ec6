/** Promises 1 to 7: a new object, and the calls that change one. */
public final class ChangesTest {
    private static final Due DUE = new Due("ChangesTest");

    public static void main(String[] args) {
        newObject();
        twoInTurn();
        tenNodes();
        trays();
        sizes();
        cables();
        currents();
        rooms();
        limits();
        throwingChangesNothing();
        argumentAheadOfState();
        DUE.end();
    }

    private static void newObject() {
        CableSizes x = new CableSizes();
        DUE.holds("new: settled", x.settled());
        DUE.same("new: copper", x.copper(), 0);
        DUE.holds("new: right(0)", x.right(0));
        DUE.illegalArgument("new: told(0, 2)", () -> x.told(0, 2));
        DUE.illegalArgument("new: chosen(0)", () -> x.chosen(0));
        DUE.illegalArgument("new: way(0)", () -> x.way(0));
        DUE.illegalArgument("new: room(0, 1)", () -> x.room(0, 1));
        DUE.illegalArgument("new: current(0, 1)", () -> x.current(0, 1));
        DUE.same("new: limit", x.limit(7), 100000);
        CableSizes y = new CableSizes();
        DUE.same("another: limit", y.limit(7), 100000);
    }

    private static void twoInTurn() {
        CableSizes x = new CableSizes();
        CableSizes y = new CableSizes();
        for (int i = 0; i < 3; i++) {
            DUE.same("one's tray " + i, x.tray(i, i + 1, 10, 100), i);
            DUE.same("other's tray " + i, y.tray(i, i + 1, 20, 50), i);
            DUE.same("one's size " + i, x.size(5 + i, 10 + i, 10), i);
            DUE.same("other's size " + i, y.size(10 + i, 20 + i, 5), i);
            DUE.same("one's cable " + i, x.cable(0, i + 1, 3 + i), i);
            DUE.same("other's cable " + i, y.cable(i + 1, 0, 6 + i), i);
        }
        DUE.same("one's limit", x.limit(1000), 100000);
        DUE.same("other's limit", y.limit(2000), 100000);
        DUE.same("one's fill", x.told(0, 0), 150);
        DUE.same("other's fill", y.told(0, 0), 600);
        DUE.same("one's copper", x.copper(), 5 * (10 + 20 + 30));
        DUE.same("other's copper", y.copper(), 10 * (20 + 40 + 60));
        DUE.same("one's current", x.current(2, 1), 5);
        DUE.same("other's current", y.current(2, 1), 8);
        DUE.same("one's room", x.room(2, 1), 100);
        DUE.same("other's room", y.room(2, 50), 50);
        DUE.fails("one is not settled", x.settled());
        DUE.holds("the other is", y.settled());
    }

    private static void tenNodes() {
        CableSizes x = new CableSizes();
        DUE.same("tray to node 9", x.tray(0, 9, 4, 1), 0);
        DUE.same("cable to node 0", x.cable(9, 0, 1), 0);
        DUE.same("way of it", x.way(0), 4);
    }

    private static void trays() {
        CableSizes x = new CableSizes();
        int[][] bad = {{-1, 1, 5, 5}, {10, 1, 5, 5}, {1, -1, 5, 5}, {1, 10, 5, 5}, {3, 3, 5, 5}, {0, 1, 0, 5},
            {0, 1, 101, 5}, {0, 1, 5, 0}, {0, 1, 5, 1001}, {0, 1, -5, 5}, {0, 1, 5, -5},
            {Integer.MIN_VALUE, 1, 5, 5}, {0, Integer.MAX_VALUE, 5, 5}};
        for (int[] b : bad) {
            DUE.illegalArgument("tray " + java.util.Arrays.toString(b), () -> x.tray(b[0], b[1], b[2], b[3]));
        }
        DUE.same("least tray", x.tray(0, 1, 1, 1), 0);
        DUE.same("greatest tray", x.tray(9, 8, 100, 1000), 1);
        DUE.same("a tray beside another", x.tray(1, 0, 1, 1), 2);
        for (int number = 3; number < 15; number++) {
            DUE.same("tray " + number, x.tray(2, 3, 1, 1), number);
        }
        DUE.illegalState("tray 15", () -> x.tray(2, 3, 1, 1));
        DUE.same("last tray is there", x.told(14, 2), 0);
        DUE.illegalArgument("told(15, 2)", () -> x.told(15, 2));
    }

    private static void sizes() {
        CableSizes x = new CableSizes();
        int[][] bad = {{0, 5, 5}, {101, 5, 5}, {5, 0, 5}, {5, 1001, 5}, {5, 5, -1}, {5, 5, 1001}, {-1, 5, 5}, {5, -1, 5}};
        for (int[] b : bad) {
            DUE.illegalArgument("size " + java.util.Arrays.toString(b), () -> x.size(b[0], b[1], b[2]));
        }
        DUE.same("least size", x.size(1, 1, 1000), 0);
        DUE.same("same rating and ohms", x.size(2, 1, 1000), 1);
        DUE.illegalState("same area", () -> x.size(2, 5, 5));
        DUE.illegalState("lesser area", () -> x.size(1, 5, 5));
        DUE.same("better size", x.size(3, 50, 500), 2);
        DUE.illegalState("lesser rating", () -> x.size(4, 49, 500));
        DUE.illegalState("greater ohms", () -> x.size(4, 50, 501));
        DUE.same("size 3", x.size(4, 50, 500), 3);
        DUE.same("size 4", x.size(99, 999, 1), 4);
        DUE.same("greatest size", x.size(100, 1000, 0), 5);
        DUE.illegalState("size 6", () -> x.size(100, 1000, 0));
        CableSizes y = new CableSizes();
        for (int number = 0; number < 6; number++) {
            DUE.same("size " + number, y.size(number + 1, 1, 0), number);
        }
        DUE.illegalState("size 6 that fits", () -> y.size(50, 1000, 0));
    }

    private static void cables() {
        CableSizes x = new CableSizes();
        int[][] bad = {{-1, 1, 5}, {10, 1, 5}, {1, -1, 5}, {1, 10, 5}, {0, 0, 5}, {9, 9, 5}, {0, 1, 0}, {0, 1, 1001}, {0, 1, -1}};
        for (int[] b : bad) {
            DUE.illegalArgument("cable " + java.util.Arrays.toString(b), () -> x.cable(b[0], b[1], b[2]));
        }
        DUE.same("least cable", x.cable(0, 1, 1), 0);
        DUE.same("greatest cable", x.cable(9, 8, 1000), 1);
        for (int number = 2; number < 20; number++) {
            DUE.same("cable " + number, x.cable(1, 0, 7), number);
        }
        DUE.illegalState("cable 20", () -> x.cable(1, 0, 7));
        DUE.same("last cable is there", x.way(19), CableSizes.NONE);
        DUE.illegalArgument("way(20)", () -> x.way(20));
    }

    private static void currents() {
        CableSizes x = new CableSizes();
        x.tray(0, 1, 10, 1000);
        x.size(1, 10, 100);
        x.size(2, 20, 50);
        x.cable(0, 1, 10);
        x.cable(0, 1, 3);
        DUE.same("chosen at 10", x.chosen(0), 0);
        DUE.same("current(0, 11)", x.current(0, 11), 10);
        DUE.same("chosen at 11", x.chosen(0), 1);
        DUE.same("the other cable", x.chosen(1), 0);
        DUE.same("drop at 11", x.cableAt(0, 0), 5);
        DUE.same("current(0, 1000)", x.current(0, 1000), 11);
        DUE.fails("settled at 1000", x.settled());
        DUE.same("current(0, 1)", x.current(0, 1), 1000);
        DUE.same("current(0, 1) again", x.current(0, 1), 1);
        DUE.same("chosen at 1", x.chosen(0), 0);
        DUE.same("the other's current", x.current(1, 4), 3);
        int[][] bad = {{-1, 5}, {2, 5}, {20, 5}, {0, 0}, {0, 1001}, {0, -1}};
        for (int[] b : bad) {
            DUE.illegalArgument("current " + java.util.Arrays.toString(b), () -> x.current(b[0], b[1]));
        }
        DUE.same("current after bad ones", x.current(0, 2), 1);
    }

    private static void rooms() {
        CableSizes x = new CableSizes();
        x.tray(0, 1, 10, 10);
        x.tray(1, 2, 10, 500);
        x.size(10, 10, 0);
        x.cable(0, 1, 5);
        DUE.same("fill", x.told(0, 0), 1000);
        DUE.same("room(0, 1000)", x.room(0, 1000), 10);
        DUE.same("fill in more room", x.told(0, 0), 10);
        DUE.same("room(0, 9)", x.room(0, 9), 1000);
        DUE.fails("settled in little room", x.settled());
        DUE.same("room(0, 1)", x.room(0, 1), 9);
        DUE.same("the other's room", x.room(1, 1), 500);
        int[][] bad = {{-1, 5}, {2, 5}, {15, 5}, {0, 0}, {0, 1001}, {0, -1}};
        for (int[] b : bad) {
            DUE.illegalArgument("room " + java.util.Arrays.toString(b), () -> x.room(b[0], b[1]));
        }
        DUE.same("room after bad ones", x.room(0, 2), 1);
    }

    private static void limits() {
        CableSizes x = new CableSizes();
        x.tray(0, 1, 10, 1000);
        x.size(1, 1000, 1000);
        x.cable(0, 1, 7);
        DUE.same("drop", x.cableAt(0, 0), 70);
        DUE.same("limit(70)", x.limit(70), 100000);
        DUE.holds("settled at 70", x.settled());
        DUE.same("limit(69)", x.limit(69), 70);
        DUE.fails("settled at 69", x.settled());
        DUE.same("limit(0)", x.limit(0), 69);
        DUE.fails("settled at 0", x.settled());
        DUE.same("limit(1000000)", x.limit(1000000), 0);
        DUE.illegalArgument("limit(-1)", () -> x.limit(-1));
        DUE.illegalArgument("limit(1000001)", () -> x.limit(1000001));
        DUE.holds("settled at 1000000", x.settled());
        DUE.same("limit after bad ones", x.limit(5), 1000000);
    }

    private static void throwingChangesNothing() {
        CableSizes x = new CableSizes();
        x.size(5, 12, 100);
        x.size(12, 20, 60);
        x.tray(0, 1, 10, 100);
        x.tray(1, 2, 10, 100);
        x.cable(0, 2, 10);
        x.cable(2, 1, 15);
        x.cable(7, 8, 15);
        String before = Snapshot.of(x, 2, 3);
        DUE.illegalArgument("bad tray", () -> x.tray(0, 2, 101, 1));
        DUE.illegalArgument("bad tray", () -> x.tray(0, 2, 1, 0));
        DUE.illegalArgument("bad size", () -> x.size(13, 21, -1));
        DUE.illegalState("bad size", () -> x.size(12, 21, 1));
        DUE.illegalArgument("bad cable", () -> x.cable(0, 2, 0));
        DUE.illegalArgument("bad current", () -> x.current(0, 1001));
        DUE.illegalArgument("bad room", () -> x.room(0, 1001));
        DUE.illegalArgument("bad limit", () -> x.limit(-1));
        DUE.illegalArgument("bad digits", () -> x.right(2) ? 1 : 0);
        DUE.illegalArgument("bad digits", () -> x.right(216 + 43) ? 1 : 0);
        DUE.holds("nothing has changed", before.equals(Snapshot.of(x, 2, 3)));
        DUE.illegalArgument("no third tray", () -> x.told(2, 2));
        DUE.illegalArgument("no fourth cable", () -> x.chosen(3));
        DUE.same("the third size", x.size(13, 21, 1), 2);
    }

    private static void argumentAheadOfState() {
        CableSizes x = new CableSizes();
        for (int tray = 0; tray < 15; tray++) {
            x.tray(0, 1, 1, 1);
        }
        for (int size = 1; size <= 6; size++) {
            x.size(size, 10, 10);
        }
        for (int cable = 0; cable < 20; cable++) {
            x.cable(0, 1, 1);
        }
        DUE.illegalArgument("bad tray when full", () -> x.tray(0, 0, 1, 1));
        DUE.illegalArgument("bad tray when full", () -> x.tray(0, 1, 1, 1001));
        DUE.illegalArgument("bad size when full", () -> x.size(7, 10, 1001));
        DUE.illegalArgument("bad size when full", () -> x.size(0, 10, 10));
        DUE.illegalArgument("bad cable when full", () -> x.cable(4, 4, 1));
        DUE.illegalArgument("bad cable when full", () -> x.cable(0, 1, 1001));
        DUE.illegalState("tray when full", () -> x.tray(2, 3, 1, 1));
        DUE.illegalState("size when full", () -> x.size(7, 10, 10));
        DUE.illegalState("cable when full", () -> x.cable(2, 3, 1));
        CableSizes y = new CableSizes();
        y.size(5, 10, 10);
        DUE.illegalArgument("bad size of less area", () -> y.size(4, 1001, 10));
    }
}
