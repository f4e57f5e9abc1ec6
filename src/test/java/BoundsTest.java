import java.util.function.IntUnaryOperator;

/** The section "Terms": every number at every call that takes it, inside its bounds and outside of them. */
public final class BoundsTest {
    private static final Due DUE = new Due("BoundsTest");

    public static void main(String[] args) {
        nodes();
        lengthsAndRooms();
        areasRatingsAndOhms();
        currents();
        limits();
        trayNumbers();
        sizeNumbers();
        cableNumbers();
        whats();
        DUE.end();
    }

    /** Each number from the lowest to the highest is taken, and none beside them; each call has its own object. */
    private static void bounds(String what, int lowest, int highest, IntUnaryOperator call) {
        // All of them where they are few, else those near both ends.
        for (int number = lowest; number <= highest; number++) {
            int taken = number;
            DUE.taken(what + ", at " + taken, () -> call.applyAsInt(taken));
            if (number - lowest >= 1000 && highest - number > 1000) {
                number = highest - 1000;
            }
        }
        int[] outside = {lowest - 1, lowest - 2, highest + 1, highest + 2, Integer.MIN_VALUE, Integer.MIN_VALUE + 1,
            Integer.MAX_VALUE, Integer.MAX_VALUE - 1, -1000, 1 << 20 | 1 << 30};
        for (int number : outside) {
            DUE.illegalArgument(what + ", at " + number, () -> call.applyAsInt(number));
        }
    }

    private static int beside(int node) {
        return node == 4 ? 5 : 4;
    }

    private static void nodes() {
        bounds("NODES are 0 .. 9: tray, node", 0, 9, n -> new CableSizes().tray(n, beside(n), 1, 1));
        bounds("NODES are 0 .. 9: tray, other", 0, 9, n -> new CableSizes().tray(beside(n), n, 1, 1));
        bounds("NODES are 0 .. 9: cable, node", 0, 9, n -> new CableSizes().cable(n, beside(n), 1));
        bounds("NODES are 0 .. 9: cable, other", 0, 9, n -> new CableSizes().cable(beside(n), n, 1));
    }

    private static void lengthsAndRooms() {
        bounds("a LENGTH (1 .. 100)", 1, 100, n -> new CableSizes().tray(0, 1, n, 1));
        bounds("a ROOM (1 .. 1000): tray", 1, 1000, n -> new CableSizes().tray(0, 1, 1, n));
        bounds("a ROOM (1 .. 1000): room", 1, 1000, n -> oneOfEach().room(0, n));
        for (int length = 1; length <= 100; length++) {
            CableSizes x = new CableSizes();
            x.tray(0, 1, length, 1);
            x.cable(0, 1, 1);
            DUE.same("a LENGTH is kept", x.way(0), length);
        }
        for (int room = 1; room <= 1000; room++) {
            CableSizes x = new CableSizes();
            x.tray(0, 1, 1, room);
            DUE.same("a ROOM is kept: tray", x.room(0, 1001 - room), room);
            DUE.same("a ROOM is kept: room", x.room(0, 1), 1001 - room);
        }
    }

    private static void areasRatingsAndOhms() {
        bounds("an AREA (1 .. 100)", 1, 100, n -> new CableSizes().size(n, 1, 0));
        bounds("a RATING (1 .. 1000)", 1, 1000, n -> new CableSizes().size(1, n, 0));
        bounds("OHMS (0 .. 1000)", 0, 1000, n -> new CableSizes().size(1, 1, n));
        for (int number = 1; number <= 1000; number++) {
            CableSizes x = new CableSizes();
            x.tray(0, 1, 100, 1000);
            x.size((number - 1) % 100 + 1, number, 1000 - number);
            x.cable(0, 1, 1);
            DUE.same("an AREA is kept", x.told(0, 0), (number - 1) % 100 + 1);
            DUE.same("a RATING is kept", x.cableAt(0, 1), number);
            x.current(0, number);
            DUE.same("OHMS are kept", x.cableAt(0, 0), number * (1000 - number) * 100 / 1000);
        }
    }

    private static void currents() {
        bounds("a CURRENT (1 .. 1000): cable", 1, 1000, n -> new CableSizes().cable(0, 1, n));
        bounds("a CURRENT (1 .. 1000): current", 1, 1000, n -> oneOfEach().current(0, n));
        for (int current = 1; current <= 1000; current++) {
            CableSizes x = new CableSizes();
            x.cable(0, 1, current);
            DUE.same("a CURRENT is kept: cable", x.current(0, 1001 - current), current);
            DUE.same("a CURRENT is kept: current", x.current(0, 1), 1001 - current);
        }
    }

    private static void limits() {
        bounds("the LIMIT (0 .. 1000000)", 0, 1000000, n -> new CableSizes().limit(n));
        int[] limits = {0, 1, 2, 99999, 100000, 100001, 999999, 1000000};
        for (int limit : limits) {
            CableSizes x = new CableSizes();
            DUE.same("the LIMIT: 100000 at first", x.limit(limit), 100000);
            DUE.same("the LIMIT is kept", x.limit(5), limit);
        }
    }

    /** There is no such tray: behind the last one that there is, not behind the last that there may be. */
    private static void trayNumbers() {
        for (int count = 0; count <= 15; count++) {
            int trays = count;
            bounds("TRAYS as they come: room, of " + count, 0, count - 1, n -> withTrays(trays).room(n, 5));
            for (int what = 0; what <= 2; what++) {
                int asked = what;
                bounds("TRAYS as they come: told " + what + ", of " + count, 0, count - 1,
                    n -> withTrays(trays).told(n, asked));
            }
        }
        CableSizes x = new CableSizes();
        for (int number = 0; number <= 14; number++) {
            DUE.same("TRAYS are 0 .. 14, as they come", x.tray(0, 1, 1, number + 1), number);
        }
        DUE.illegalState("TRAYS are 0 .. 14", () -> x.tray(0, 1, 1, 1));
        for (int number = 0; number <= 14; number++) {
            DUE.same("TRAYS each with its ROOM", x.room(number, 1), number + 1);
        }
    }

    private static void sizeNumbers() {
        CableSizes x = new CableSizes();
        x.tray(0, 1, 1, 1000);
        x.cable(0, 1, 1);
        for (int number = 0; number <= 5; number++) {
            int digit = number;
            DUE.illegalArgument("SIZES as they come: no size " + number, () -> x.right(digit) ? 1 : 0);
            DUE.same("SIZES are 0 .. 5, as they come", x.size(number + 1, number + 1, 5 - number), number);
            DUE.holds("SIZES as they come: size " + number, x.right(digit));
            x.current(0, number + 1);
            DUE.same("SIZES each with its RATING", x.chosen(0), number);
            DUE.same("SIZES each with its AREA", x.told(0, 0), number + 1);
        }
        DUE.illegalState("SIZES are 0 .. 5", () -> x.size(100, 1000, 0));
    }

    private static void cableNumbers() {
        for (int count = 0; count <= 20; count++) {
            int cables = count;
            bounds("CABLES as they come: way, of " + count, 0, count - 1, n -> withCables(cables).way(n));
            bounds("CABLES as they come: way 0, of " + count, 0, count - 1, n -> withCables(cables).way(n, 0));
            bounds("CABLES as they come: current, of " + count, 0, count - 1, n -> withCables(cables).current(n, 5));
            bounds("CABLES as they come: chosen, of " + count, 0, count - 1, n -> withCables(cables).chosen(n));
            bounds("CABLES as they come: drop, of " + count, 0, count - 1, n -> withCables(cables).cableAt(n, 0));
            bounds("CABLES as they come: carries, of " + count, 0, count - 1, n -> withCables(cables).cableAt(n, 1));
        }
        CableSizes x = new CableSizes();
        for (int number = 0; number <= 19; number++) {
            DUE.same("CABLES are 0 .. 19, as they come", x.cable(0, 1, number + 1), number);
        }
        DUE.illegalState("CABLES are 0 .. 19", () -> x.cable(0, 1, 1));
        for (int number = 0; number <= 19; number++) {
            DUE.same("CABLES each with its CURRENT", x.current(number, 1), number + 1);
        }
    }

    private static void whats() {
        bounds("told: what = 0, 1, 2", 0, 2, n -> oneOfEach().told(0, n));
        bounds("told: what = 0, 1, 2, none do", 0, 2, n -> noneDo().told(0, n));
        bounds("cableAt: what = 0, 1", 0, 1, n -> oneOfEach().cableAt(0, n));
        bounds("cableAt: what = 0, 1, none do", 0, 1, n -> noneDo().cableAt(0, n));
        bounds("cableAt: what = 0, 1, loose", 0, 1, n -> withCables(1).cableAt(0, n));
    }

    private static CableSizes oneOfEach() {
        CableSizes x = new CableSizes();
        x.tray(0, 1, 1, 1000);
        x.size(1, 1000, 0);
        x.cable(0, 1, 1);
        return x;
    }

    private static CableSizes noneDo() {
        CableSizes x = oneOfEach();
        x.room(0, 1);
        x.cable(0, 1, 1000);
        return x;
    }

    private static CableSizes withTrays(int count) {
        CableSizes x = new CableSizes();
        for (int tray = 0; tray < count; tray++) {
            x.tray(0, 1, 1, 1);
        }
        return x;
    }

    private static CableSizes withCables(int count) {
        CableSizes x = new CableSizes();
        x.size(1, 1, 1);
        for (int cable = 0; cable < count; cable++) {
            x.cable(0, 1, 1);
        }
        return x;
    }
}
