/** Promise 15: right. */
public final class RightTest {
    private static final Due DUE = new Due("RightTest");

    public static void main(String[] args) {
        digitsInOrder();
        withoutCables();
        withoutSizes();
        twentyCables();
        leavesTheLeastAlone();
        oneDigitForEachCable();
        noSizeAtAnyDigit();
        zeroBehindTheLastCable();
        belowZero();
        looseCables();
        DUE.end();
    }

    private static void digitsInOrder() {
        CableSizes x = new CableSizes();
        x.tray(0, 1, 10, 1000);
        x.tray(2, 3, 10, 1000);
        x.size(1, 10, 100);
        x.size(2, 20, 50);
        x.size(3, 30, 20);
        x.cable(0, 1, 10);
        x.cable(2, 3, 20);
        DUE.fails("0, 0", x.right(0));
        DUE.fails("1, 0", x.right(1));
        DUE.holds("0, 1", x.right(6));
        DUE.holds("1, 1", x.right(7));
        DUE.holds("2, 2", x.right(14));
        DUE.illegalArgument("3, 0", () -> x.right(3) ? 1 : 0);
        DUE.illegalArgument("0, 3", () -> x.right(18) ? 1 : 0);
        DUE.illegalArgument("0, 1, 1", () -> x.right(42) ? 1 : 0);
        DUE.illegalArgument("0, 1, 0, 1", () -> x.right(222) ? 1 : 0);
        DUE.illegalArgument("-1", () -> x.right(-1) ? 1 : 0);
        DUE.illegalArgument("the least long", () -> x.right(Long.MIN_VALUE) ? 1 : 0);
        DUE.illegalArgument("the greatest long", () -> x.right(Long.MAX_VALUE) ? 1 : 0);
        DUE.illegalArgument("1 L << 32", () -> x.right(1L << 32) ? 1 : 0);
        x.limit(0);
        DUE.fails("limit 0, drop 10", x.right(6));
        x.room(0, 1);
        x.current(0, 5);
        x.limit(1000);
        DUE.holds("a full tray", x.right(6));
        DUE.fails("too full a tray", x.right(7));
    }

    private static void withoutCables() {
        CableSizes x = new CableSizes();
        x.size(1, 1, 1);
        x.size(2, 1, 1);
        DUE.holds("right(0)", x.right(0));
        DUE.illegalArgument("right(1)", () -> x.right(1) ? 1 : 0);
    }

    private static void withoutSizes() {
        CableSizes x = new CableSizes();
        x.cable(0, 1, 1);
        DUE.illegalArgument("right(0)", () -> x.right(0) ? 1 : 0);
        x.size(1, 1, 1);
        DUE.holds("right(0) with a size", x.right(0));
    }

    private static void twentyCables() {
        CableSizes x = new CableSizes();
        x.tray(0, 1, 1, 1000);
        for (int size = 1; size <= 6; size++) {
            x.size(size, size * 10, 0);
        }
        for (int cable = 0; cable < 20; cable++) {
            x.cable(0, 1, cable == 19 ? 60 : 10);
        }
        long top = 1;
        for (int cable = 0; cable < 19; cable++) {
            top *= 6;
        }
        long last = top;
        DUE.holds("5 for the last", x.right(5 * last));
        DUE.fails("4 for the last", x.right(4 * last));
        DUE.holds("5 for all", x.right(6 * last - 1));
        DUE.illegalArgument("a digit more", () -> x.right(6 * last) ? 1 : 0);
        DUE.illegalArgument("the greatest long", () -> x.right(Long.MAX_VALUE) ? 1 : 0);
    }

    private static void leavesTheLeastAlone() {
        CableSizes x = new CableSizes();
        x.tray(0, 1, 10, 1000);
        x.size(1, 10, 100);
        x.size(2, 20, 50);
        x.cable(0, 1, 10);
        String before = Snapshot.of(x, 1, 1);
        DUE.holds("right(1)", x.right(1));
        DUE.holds("as before", before.equals(Snapshot.of(x, 1, 1)));
    }

    private static long power(int exponent) {
        long power = 1;
        for (int time = 0; time < exponent; time++) {
            power *= 6;
        }
        return power;
    }

    private static CableSizes with(int sizes, int cables) {
        CableSizes x = new CableSizes();
        x.tray(0, 1, 1, 1000);
        for (int size = 0; size < sizes; size++) {
            x.size(size + 1, size + 1, 0);
        }
        for (int cable = 0; cable < cables; cable++) {
            x.cable(0, 1, 1);
        }
        return x;
    }

    /** "Size digit k of a number of the base of 6 for cable k, the lowest first." */
    private static void oneDigitForEachCable() {
        CableSizes x = with(6, 20);
        for (int cable = 0; cable < 20; cable++) {
            for (int digit = 1; digit < 6; digit++) {
                x.current(cable, digit + 1);
                DUE.holds("digit " + digit + " for " + cable, x.right(digit * power(cable)));
                DUE.fails("digit " + (digit - 1) + " for " + cable, x.right((digit - 1) * power(cable)));
            }
            x.current(cable, 6);
            long others = power(20) - 1 - power(cable);
            DUE.fails("digit 4 for " + cable + ", 5 for all others", x.right(others));
            x.current(cable, 1);
        }
        DUE.holds("0 for all", x.right(0));
        DUE.holds("5 for all", x.right(power(20) - 1));
    }

    /** "Illegal argument: a digit means no size": whichever cable's it is, and however few sizes there are. */
    private static void noSizeAtAnyDigit() {
        for (int sizes = 0; sizes <= 6; sizes++) {
            CableSizes x = with(sizes, 20);
            for (int cable = 0; cable < 20; cable++) {
                for (int digit = 0; digit < 6; digit++) {
                    long digits = digit * power(cable);
                    String what = "digit " + digit + " for " + cable + " of " + sizes + " sizes";
                    if (digit < sizes) {
                        DUE.holds(what, x.right(digits));
                    } else {
                        DUE.illegalArgument(what, () -> x.right(digits) ? 1 : 0);
                    }
                }
            }
        }
    }

    /** "Illegal argument: .. or one behind the last cable is not 0": as far as a long reaches. */
    private static void zeroBehindTheLastCable() {
        for (int cables = 0; cables <= 20; cables++) {
            CableSizes x = with(6, cables);
            DUE.holds("nothing behind " + cables, x.right(power(cables) - 1));
            for (int behind = cables; behind <= 24; behind++) {
                long one = power(behind);
                long besideFives = one + power(cables) - 1;
                String what = "digit " + behind + " of " + cables + " cables";
                DUE.illegalArgument(what, () -> x.right(one) ? 1 : 0);
                DUE.illegalArgument(what, () -> x.right(besideFives) ? 1 : 0);
            }
            // Their low 32 bits are 0, so that as ints they would be right.
            for (int bit = 52; bit <= 62; bit++) {
                long great = 1L << bit;
                DUE.illegalArgument("1 << " + bit + " of " + cables, () -> x.right(great) ? 1 : 0);
            }
            DUE.illegalArgument("the greatest long", () -> x.right(Long.MAX_VALUE) ? 1 : 0);
        }
    }

    /** "Illegal argument: it is below 0." */
    private static void belowZero() {
        long[] below = {-1, -5, -6, -36, -power(20), Integer.MIN_VALUE, -(1L << 32), Long.MIN_VALUE, Long.MIN_VALUE + 1};
        for (long digits : below) {
            for (int cables = 0; cables <= 20; cables += 10) {
                CableSizes x = with(6, cables);
                DUE.illegalArgument(digits + " for " + cables, () -> x.right(digits) ? 1 : 0);
            }
        }
    }

    /** A loose cable has a digit too, which has to mean a size, but is right with any. */
    private static void looseCables() {
        CableSizes x = new CableSizes();
        x.tray(0, 1, 1, 1);
        x.size(1, 5, 0);
        x.size(2, 5, 0);
        x.cable(7, 8, 1000);
        x.cable(0, 1, 1);
        DUE.holds("0 for the loose one", x.right(0));
        DUE.holds("1 for the loose one", x.right(1));
        DUE.fails("1 for the other one", x.right(6));
        DUE.illegalArgument("2 for the loose one", () -> x.right(2) ? 1 : 0);
    }
}
