/** The section "Terms", sentence by sentence: ways, fills, factors, what is right, the least sizes. */
public final class TermsTest {
    private static final Due DUE = new Due("TermsTest");
    private static final int NONE = CableSizes.NONE;
    private static final int[] AREAS = {1, 2, 5, 10, 50, 100};

    public static void main(String[] args) {
        sizesBesideTheOneBefore();
        waysOfTheLeastLength();
        firstByTheNumbersTrayByTray();
        looseIsInNoTray();
        waysOfTheTraysThatThereAreNow();
        fillIsRoundedDown();
        factorAtEveryFill();
        leastFactorOnTheWay();
        carriesNotLessThanTheCurrent();
        dropNotAboveTheLimit();
        looseIsRight();
        noneHasALesserOne();
        longestPush();
        DUE.end();
    }

    /** "A later one has the greater area, a rating not less, ohms not more." */
    private static void sizesBesideTheOneBefore() {
        for (int area = 49; area <= 51; area++) {
            for (int rating = 499; rating <= 501; rating++) {
                for (int ohms = 499; ohms <= 501; ohms++) {
                    CableSizes x = new CableSizes();
                    x.size(50, 500, 500);
                    String due = area > 50 && rating >= 500 && ohms <= 500 ? "1" : "IllegalStateException";
                    int[] size = {area, rating, ohms};
                    DUE.same("size " + area + " " + rating + " " + ohms + " behind 50 500 500",
                        Snapshot.answerOf(() -> x.size(size[0], size[1], size[2])), due);
                }
            }
        }
        CableSizes y = new CableSizes();
        y.size(10, 10, 10);
        y.size(20, 20, 5);
        DUE.illegalState("beside the one before, not the first one", () -> y.size(15, 30, 4));
        DUE.illegalState("beside the one before, not the first one", () -> y.size(30, 15, 4));
        DUE.illegalState("beside the one before, not the first one", () -> y.size(30, 30, 7));
        DUE.same("beside the one before", y.size(30, 30, 5), 2);
    }

    private static void wayIs(String what, CableSizes x, int cable, int length, int... trays) {
        DUE.same(what + ": way of " + cable, x.way(cable), length);
        for (int k = 0; k < trays.length; k++) {
            DUE.same(what + ": tray " + k + " of the way of " + cable, x.way(cable, k), trays[k]);
        }
        DUE.same(what + ": no more trays of the way of " + cable, x.way(cable, trays.length), NONE);
    }

    /** "Of the least length together": not of the fewest trays, and not by the numbers. */
    private static void waysOfTheLeastLength() {
        CableSizes x = new CableSizes();
        x.tray(0, 9, 100, 1);
        for (int node = 0; node < 9; node++) {
            x.tray(node, node + 1, 11, 1);
        }
        x.cable(0, 9, 1);
        x.cable(9, 0, 1);
        x.cable(1, 9, 1);
        wayIs("nine trays of 99 against one of 100", x, 0, 99, 1, 2, 3, 4, 5, 6, 7, 8, 9);
        wayIs("nine trays of 99 against one of 100", x, 1, 99, 9, 8, 7, 6, 5, 4, 3, 2, 1);
        wayIs("from the second node on", x, 2, 88, 2, 3, 4, 5, 6, 7, 8, 9);
        x.tray(3, 9, 65, 1);
        wayIs("one tray of 65 for six of 66", x, 0, 98, 1, 2, 3, 10);
    }

    /** "Of several the first by the trays' numbers, tray by tray": from the first node on, not by sum or count. */
    private static void firstByTheNumbersTrayByTray() {
        CableSizes x = new CableSizes();
        x.tray(0, 1, 1, 1);
        x.tray(0, 2, 1, 1);
        x.tray(2, 3, 1, 1);
        x.tray(3, 9, 1, 1);
        x.tray(1, 4, 1, 1);
        x.tray(4, 9, 1, 1);
        x.tray(0, 9, 3, 1);
        x.cable(0, 9, 1);
        x.cable(9, 0, 1);
        wayIs("the first tray decides, not the others", x, 0, 3, 0, 4, 5);
        wayIs("back, the first tray decides", x, 1, 3, 3, 2, 1);
        x.tray(4, 9, 1, 1);
        x.tray(1, 4, 1, 1);
        wayIs("the second and the third of two beside one another", x, 0, 3, 0, 4, 5);
        CableSizes y = new CableSizes();
        y.tray(0, 9, 2, 1);
        y.tray(0, 1, 1, 1);
        y.tray(1, 9, 1, 1);
        y.cable(0, 9, 1);
        wayIs("one tray that is lower than two", y, 0, 2, 0);
        CableSizes z = new CableSizes();
        z.tray(1, 9, 1, 1);
        z.tray(0, 1, 1, 1);
        z.tray(0, 9, 2, 1);
        z.cable(0, 9, 1);
        z.cable(9, 0, 1);
        wayIs("two trays of which the first is lower than one", z, 0, 2, 1, 0);
        wayIs("back, two trays of which the first is lower", z, 1, 2, 0, 1);
    }

    /** "Without a way a cable is LOOSE: it is in no tray." */
    private static void looseIsInNoTray() {
        CableSizes x = new CableSizes();
        x.tray(0, 1, 5, 100);
        x.tray(2, 3, 5, 100);
        x.size(7, 10, 10);
        x.cable(0, 3, 1);
        x.cable(1, 9, 1);
        x.cable(8, 9, 1);
        for (int cable = 0; cable < 3; cable++) {
            wayIs("loose", x, cable, NONE);
            DUE.same("loose: far tray of its way", x.way(cable, Integer.MAX_VALUE), NONE);
        }
        for (int tray = 0; tray < 2; tray++) {
            DUE.same("loose: fill of " + tray, x.told(tray, 0), 0);
            DUE.same("loose: factor of " + tray, x.told(tray, 1), 1000);
            DUE.same("loose: cables of " + tray, x.told(tray, 2), 0);
        }
        DUE.same("loose: copper", x.copper(), 0);
    }

    /** "Ways are those of the trays that there are now." */
    private static void waysOfTheTraysThatThereAreNow() {
        CableSizes x = new CableSizes();
        x.size(10, 100, 10);
        x.cable(0, 2, 10);
        x.cable(0, 1, 10);
        wayIs("no trays yet", x, 0, NONE);
        x.tray(0, 2, 100, 100);
        wayIs("one tray", x, 0, 100, 0);
        DUE.same("one tray: cables", x.told(0, 2), 1);
        DUE.same("one tray: fill", x.told(0, 0), 100);
        DUE.same("one tray: copper", x.copper(), 1000);
        DUE.same("one tray: drop", x.cableAt(0, 0), 10);
        x.tray(2, 1, 50, 100);
        wayIs("over the far node", x, 1, 150, 0, 1);
        DUE.same("over the far node: fill", x.told(0, 0), 200);
        x.tray(1, 0, 50, 100);
        wayIs("as long, but higher by its first tray", x, 0, 100, 0);
        wayIs("straight", x, 1, 50, 2);
        DUE.same("straight: cables", x.told(1, 2), 0);
        DUE.same("straight: fill", x.told(1, 0), 0);
        x.tray(2, 1, 49, 100);
        wayIs("round by the shorter one", x, 0, 99, 2, 3);
        DUE.same("round: cables left behind", x.told(0, 2), 0);
        DUE.same("round: cables", x.told(2, 2), 2);
        DUE.same("round: copper", x.copper(), 10 * 99 + 10 * 50);
        DUE.same("round: drop", x.cableAt(0, 0), 9);
    }

    /** "The sum of the areas of all cables that go through it, 1000 times, by its room, rounded down." */
    private static void fillIsRoundedDown() {
        CableSizes x = new CableSizes();
        x.tray(0, 1, 1, 1000);
        x.size(7, 1000, 0);
        x.cable(0, 1, 1);
        x.cable(1, 0, 1);
        for (int room = 14; room <= 60; room++) {
            x.room(0, room);
            DUE.same("fill of 14 in " + room, x.told(0, 0), 14000 / room);
        }
        for (int room = 901; room <= 1000; room++) {
            x.room(0, room);
            DUE.same("fill of 14 in " + room, x.told(0, 0), 14000 / room);
        }
    }

    private static int factorDue(int fill) {
        int[] upTo = {200, 400, 600, 800, 1000};
        int[] factors = {1000, 800, 650, 550, 500};
        for (int step = 0; step < upTo.length; step++) {
            if (fill <= upTo[step]) {
                return factors[step];
            }
        }
        return 0;
    }

    /** "Its FACTOR is 1000 up to a fill of 200, ..; above 0": twenty cables in one tray, every sum of areas. */
    private static void factorAtEveryFill() {
        for (int from = 20; from < 1220; from += 100) {
            CableSizes x = twentyInATray(1000);
            for (int fill = from; fill < from + 100; fill++) {
                probe("fill " + fill, x, fill, factorDue(fill));
            }
        }
        // In a room of 999 the fills of 200, 400, .. are rounded down to them.
        CableSizes y = twentyInATray(999);
        for (int area = 200; area <= 1000; area += 200) {
            probe("area " + area + " in 999", y, area, area == 1000 ? 0 : factorDue(area));
            probe("area " + (area + 1) + " in 999", y, area + 1, factorDue(area + 1));
        }
    }

    private static CableSizes twentyInATray(int room) {
        CableSizes x = new CableSizes();
        x.tray(0, 1, 1, room);
        for (int area : AREAS) {
            x.size(area, 1000, 0);
        }
        for (int cable = 0; cable < 20; cable++) {
            x.cable(0, 1, 1);
        }
        return x;
    }

    /** The first cable's rating is 1000, so it carries the factor and not one more. */
    private static void probe(String what, CableSizes x, int sum, int factor) {
        long digits = digitsOf(sum);
        if (factor == 0) {
            x.current(0, 1);
            DUE.fails(what + " carries 1", x.right(digits));
            return;
        }
        x.current(0, factor);
        DUE.holds(what + " carries " + factor, x.right(digits));
        if (factor < 1000) {
            x.current(0, factor + 1);
            DUE.fails(what + " carries " + (factor + 1), x.right(digits));
        }
    }

    /** Sizes for twenty cables whose areas are that much together. */
    private static long digitsOf(int sum) {
        int rest = sum - 20 * AREAS[0];
        long digits = 0;
        for (int cable = 0; cable < 20; cable++) {
            int size = AREAS.length - 1;
            while (AREAS[size] - AREAS[0] > rest) {
                size--;
            }
            rest -= AREAS[size] - AREAS[0];
            digits = digits * 6 + size;
        }
        if (rest != 0) {
            throw new AssertionError("no sizes for " + sum);
        }
        return digits;
    }

    /** "Its size's rating times the least factor on its way": wherever on the way that tray is. */
    private static void leastFactorOnTheWay() {
        for (int narrow = 0; narrow < 9; narrow++) {
            CableSizes x = new CableSizes();
            for (int node = 0; node < 9; node++) {
                x.tray(node, node + 1, 1, node == narrow ? 20 : 40);
            }
            x.size(10, 100, 0);
            x.cable(0, 9, 50);
            x.cable(9, 0, 1);
            DUE.holds("narrow at " + narrow, x.settled());
            DUE.same("narrow at " + narrow + ": carries", x.cableAt(0, 1), 50);
            x.current(0, 51);
            DUE.fails("narrow at " + narrow + ": 51", x.settled());
            x.room(narrow, 40);
            DUE.same("no more narrow: carries", x.cableAt(0, 1), 65);
        }
    }

    /** "By 1000 (rounded down), is not less than its current." */
    private static void carriesNotLessThanTheCurrent() {
        int[] rooms = {500, 250, 167, 125, 100};
        int[] factors = {1000, 800, 650, 550, 500};
        for (int step = 0; step < rooms.length; step++) {
            for (int rating = 1; rating <= 100; rating++) {
                CableSizes x = new CableSizes();
                x.tray(0, 1, 1, rooms[step]);
                x.size(100, rating, 0);
                int carries = rating * factors[step] / 1000;
                String what = "rating " + rating + " times " + factors[step];
                x.cable(0, 1, Math.max(carries, 1));
                DUE.same(what + ": its carrying does", x.right(0) ? 1 : 0, carries > 0 ? 1 : 0);
                DUE.same(what + ": carries", x.cableAt(0, 1), carries > 0 ? carries : NONE);
                x.current(0, carries + 1);
                DUE.fails(what + ": one more does not", x.right(0));
                DUE.fails(what + ": one more does not", x.settled());
            }
        }
    }

    /** "Its DROP is not above the LIMIT: current times ohms times the way's length, by 1000, rounded down." */
    private static void dropNotAboveTheLimit() {
        int[][] cases = {{1, 1, 1}, {1, 999, 1}, {1, 1000, 1}, {2, 999, 1}, {7, 11, 13}, {9, 111, 1}, {37, 27, 1},
            {37, 27, 2}, {1000, 1000, 100}, {1000, 1, 1}, {999, 1, 1}, {1000, 0, 100}, {123, 457, 89}};
        for (int[] one : cases) {
            dropIs(one[0], one[1], one[2]);
        }
    }

    private static void dropIs(int current, int ohms, int length) {
        CableSizes x = new CableSizes();
        x.tray(0, 1, length, 1000);
        x.size(1, 1000, ohms);
        x.cable(0, 1, current);
        int drop = (int) ((long) current * ohms * length / 1000);
        String what = "drop of " + current + " * " + ohms + " * " + length;
        x.limit(drop);
        DUE.holds(what + " at the limit is right", x.right(0));
        DUE.holds(what + " at the limit", x.settled());
        DUE.same(what, x.cableAt(0, 0), drop);
        if (drop > 0) {
            x.limit(drop - 1);
            DUE.fails(what + " above the limit is right", x.right(0));
            DUE.fails(what + " above the limit", x.settled());
        }
    }

    /** "A cable with a size IS RIGHT if it is loose": whatever its current and the limit. */
    private static void looseIsRight() {
        CableSizes x = new CableSizes();
        x.size(100, 1, 1000);
        x.limit(0);
        for (int cable = 0; cable < 20; cable++) {
            x.cable(cable % 9, 9, 1000);
        }
        DUE.holds("loose: right", x.right(0));
        DUE.holds("loose: settled", x.settled());
        DUE.same("loose: chosen", x.chosen(19), 0);
        x.tray(8, 9, 1, 1000);
        DUE.fails("no more loose: right", x.right(0));
        DUE.fails("no more loose: settled", x.settled());
    }

    /**
     * "With no other sizes with which every one is right any cable has a lesser one": all are right with size 1 too,
     * but with size 0 as well, and greater sizes would make one another needed.
     */
    private static void noneHasALesserOne() {
        CableSizes x = new CableSizes();
        x.tray(0, 1, 1, 100);
        x.size(10, 10, 0);
        x.size(20, 13, 0);
        x.cable(0, 1, 10);
        x.cable(0, 1, 10);
        DUE.holds("0, 0 are right", x.right(0));
        DUE.fails("0, 1 are not", x.right(6));
        DUE.fails("1, 0 are not", x.right(1));
        DUE.holds("1, 1 are right", x.right(7));
        DUE.same("the least for 0", x.chosen(0), 0);
        DUE.same("the least for 1", x.chosen(1), 0);
        x.room(0, 99);
        DUE.fails("in 99: 0, 0 are not", x.right(0));
        DUE.same("in 99: the least for 0", x.chosen(0), NONE);
        x.room(0, 100);
        DUE.same("in 100 again", x.chosen(0), 0);
    }

    /** Twenty cables of which each has to go through all sizes before it pushes up the next one. */
    private static void longestPush() {
        int[] currents = {100, 80, 65, 55};
        CableSizes x = new CableSizes();
        for (int tray = 0; tray < 5; tray++) {
            x.tray(tray, tray + 1, 1, 500);
        }
        for (int size = 0; size < 5; size++) {
            x.size(10 + size, 100, 0);
        }
        x.size(100, 210, 0);
        x.cable(0, 1, 100);
        for (int cable = 1; cable < 20; cable++) {
            int tray = (cable - 1) / 4;
            // The last one of each tray reaches into the next tray and is the first to fill it.
            x.cable(tray, cable % 4 == 0 ? tray + 2 : tray + 1, currents[(cable - 1) % 4]);
        }
        DUE.holds("nothing pushed: settled", x.settled());
        for (int cable = 0; cable < 20; cable++) {
            DUE.same("nothing pushed: " + cable, x.chosen(cable), 0);
        }
        x.current(0, 101);
        DUE.holds("all pushed: settled", x.settled());
        for (int cable = 0; cable < 20; cable++) {
            DUE.same("all pushed: " + cable, x.chosen(cable), 5);
        }
        DUE.same("all pushed: fill of the first tray", x.told(0, 0), 1000);
        DUE.same("all pushed: fill of the last tray", x.told(4, 0), 800);
        x.room(4, 399);
        DUE.fails("the last tray too full at last", x.settled());
        x.room(4, 400);
        DUE.holds("the last tray just full at last", x.settled());
        x.current(0, 100);
        DUE.same("nothing pushed again", x.chosen(19), 0);
    }
}
