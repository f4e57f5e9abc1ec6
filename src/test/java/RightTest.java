/** Promise 15: right. */
public final class RightTest {
    private static final Due DUE = new Due("RightTest");

    public static void main(String[] args) {
        digitsInOrder();
        withoutCables();
        withoutSizes();
        twentyCables();
        leavesTheLeastAlone();
        DUE.end();
    }

    private static void digitsInOrder() {
        CableSizes x = new CableSizes();
        x.tray(0, 1, 10, 1000);
        x.tray(2, 3, 10, 1000);
        x.size(1, 10, 100);
        x.size(2, 20, 50);
        x.size(3, 30, 20);
        x.cable(0, 1, 10);
        x.cable(2, 3, 20);
        DUE.fails("0, 0", x.right(0));
        DUE.fails("1, 0", x.right(1));
        DUE.holds("0, 1", x.right(6));
        DUE.holds("1, 1", x.right(7));
        DUE.holds("2, 2", x.right(14));
        DUE.illegalArgument("3, 0", () -> x.right(3) ? 1 : 0);
        DUE.illegalArgument("0, 3", () -> x.right(18) ? 1 : 0);
        DUE.illegalArgument("0, 1, 1", () -> x.right(42) ? 1 : 0);
        DUE.illegalArgument("0, 1, 0, 1", () -> x.right(222) ? 1 : 0);
        DUE.illegalArgument("-1", () -> x.right(-1) ? 1 : 0);
        DUE.illegalArgument("the least long", () -> x.right(Long.MIN_VALUE) ? 1 : 0);
        DUE.illegalArgument("the greatest long", () -> x.right(Long.MAX_VALUE) ? 1 : 0);
        DUE.illegalArgument("1 L << 32", () -> x.right(1L << 32) ? 1 : 0);
        x.limit(0);
        DUE.fails("limit 0, drop 10", x.right(6));
        x.room(0, 1);
        x.current(0, 5);
        x.limit(1000);
        DUE.holds("a full tray", x.right(6));
        DUE.fails("too full a tray", x.right(7));
    }

    private static void withoutCables() {
        CableSizes x = new CableSizes();
        x.size(1, 1, 1);
        x.size(2, 1, 1);
        DUE.holds("right(0)", x.right(0));
        DUE.illegalArgument("right(1)", () -> x.right(1) ? 1 : 0);
    }

    private static void withoutSizes() {
        CableSizes x = new CableSizes();
        x.cable(0, 1, 1);
        DUE.illegalArgument("right(0)", () -> x.right(0) ? 1 : 0);
        x.size(1, 1, 1);
        DUE.holds("right(0) with a size", x.right(0));
    }

    private static void twentyCables() {
        CableSizes x = new CableSizes();
        x.tray(0, 1, 1, 1000);
        for (int size = 1; size <= 6; size++) {
            x.size(size, size * 10, 0);
        }
        for (int cable = 0; cable < 20; cable++) {
            x.cable(0, 1, cable == 19 ? 60 : 10);
        }
        long top = 1;
        for (int cable = 0; cable < 19; cable++) {
            top *= 6;
        }
        long last = top;
        DUE.holds("5 for the last", x.right(5 * last));
        DUE.fails("4 for the last", x.right(4 * last));
        DUE.holds("5 for all", x.right(6 * last - 1));
        DUE.illegalArgument("a digit more", () -> x.right(6 * last) ? 1 : 0);
        DUE.illegalArgument("the greatest long", () -> x.right(Long.MAX_VALUE) ? 1 : 0);
    }

    private static void leavesTheLeastAlone() {
        CableSizes x = new CableSizes();
        x.tray(0, 1, 10, 1000);
        x.size(1, 10, 100);
        x.size(2, 20, 50);
        x.cable(0, 1, 10);
        String before = Snapshot.of(x, 1, 1);
        DUE.holds("right(1)", x.right(1));
        DUE.holds("as before", before.equals(Snapshot.of(x, 1, 1)));
    }
}
