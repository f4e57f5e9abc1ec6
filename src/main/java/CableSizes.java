import java.util.Arrays;

/**
 * Cables on trays: each takes the shortest way, the more a tray is filled the less a cable in it
 * may carry, so that sizes push one another up; the least sizes that do for all, or none do.
 */
public final class CableSizes {
    /** There is none. */
    public static final int NONE = -1;

    private static final int NODES = 10;
    private static final int MOST_TRAYS = 15;
    private static final int MOST_SIZES = 6;
    private static final int MOST_CABLES = 20;
    // A shortest way comes to no node twice, since every tray is at least 1 long.
    private static final int MOST_TRAYS_OF_A_WAY = NODES - 1;
    // Each round but the last raises at least one cable by at least one size.
    private static final int MOST_ROUNDS = MOST_CABLES * (MOST_SIZES - 1) + 1;

    private static final int MOST_LENGTH = 100;
    private static final int MOST_ROOM = 1000;
    private static final int MOST_AREA = 100;
    private static final int MOST_RATING = 1000;
    private static final int MOST_OHMS = 1000;
    private static final int MOST_CURRENT = 1000;
    private static final int MOST_LIMIT = 1000000;
    private static final int FIRST_LIMIT = 100000;

    private static final int THOUSAND = 1000;
    private static final int BASE = 6;
    // Above every way's length, and low enough that a tray's length may be added to it.
    private static final int FAR = 1000000;

    private static final int TRAY_FILL = 0;
    private static final int TRAY_FACTOR = 1;
    private static final int TRAY_CABLES = 2;
    private static final int CABLE_DROP = 0;
    private static final int CABLE_CARRIES = 1;

    private final Trays trays;
    private final Sizes sizes;
    private final Cables cables;
    private final Sizing least;
    private final Sizing trial;
    private int dropLimit;
    private boolean leastIsKnown;
    private boolean leastExists;

    public CableSizes() {
        trays = new Trays();
        sizes = new Sizes();
        cables = new Cables();
        least = new Sizing(trays, sizes, cables);
        trial = new Sizing(trays, sizes, cables);
        dropLimit = FIRST_LIMIT;
        leastIsKnown = false;
        leastExists = false;
    }

    /** A tray: its number. */
    public int tray(int node, int other, int length, int room) throws IllegalArgumentException, IllegalStateException {
        checkNodes(node, other);
        checkBounds(length, 1, MOST_LENGTH);
        checkBounds(room, 1, MOST_ROOM);
        if (trays.count >= MOST_TRAYS) {
            throw new IllegalStateException("there are 15 trays");
        }
        int number = trays.add(node, other, length, room);
        for (int cable = 0; cable < cables.count; cable++) {
            cables.findWay(cable, trays);
        }
        leastIsKnown = false;
        return number;
    }

    /** A size: its number. */
    public int size(int area, int rating, int ohms) throws IllegalArgumentException, IllegalStateException {
        checkBounds(area, 1, MOST_AREA);
        checkBounds(rating, 1, MOST_RATING);
        checkBounds(ohms, 0, MOST_OHMS);
        if (sizes.count >= MOST_SIZES) {
            throw new IllegalStateException("there are 6 sizes");
        }
        if (!sizes.mayFollow(area, rating, ohms)) {
            throw new IllegalStateException("not as told beside the size before");
        }
        leastIsKnown = false;
        return sizes.add(area, rating, ohms);
    }

    /** A cable: its number. */
    public int cable(int node, int other, int current) throws IllegalArgumentException, IllegalStateException {
        checkNodes(node, other);
        checkBounds(current, 1, MOST_CURRENT);
        if (cables.count >= MOST_CABLES) {
            throw new IllegalStateException("there are 20 cables");
        }
        int number = cables.add(node, other, current);
        cables.findWay(number, trays);
        leastIsKnown = false;
        return number;
    }

    /** Sets a cable's current: what it was. */
    public int current(int cable, int amount) throws IllegalArgumentException {
        checkNumber(cable, cables.count);
        checkBounds(amount, 1, MOST_CURRENT);
        int before = cables.currents[cable];
        cables.currents[cable] = amount;
        leastIsKnown = false;
        return before;
    }

    /** Sets a tray's room: what it was. */
    public int room(int tray, int amount) throws IllegalArgumentException {
        checkNumber(tray, trays.count);
        checkBounds(amount, 1, MOST_ROOM);
        int before = trays.rooms[tray];
        trays.rooms[tray] = amount;
        leastIsKnown = false;
        return before;
    }

    /** Sets the limit of the drop: what it was. */
    public int limit(int drop) throws IllegalArgumentException {
        checkBounds(drop, 0, MOST_LIMIT);
        int before = dropLimit;
        dropLimit = drop;
        leastIsKnown = false;
        return before;
    }

    /** How long a cable's way is; NONE if it is loose. */
    public int way(int cable) throws IllegalArgumentException {
        checkNumber(cable, cables.count);
        return cables.isLoose(cable) ? NONE : cables.wayLengths[cable];
    }

    /** The k-th tray of a cable's way; NONE if there is none such. */
    public int way(int cable, int k) throws IllegalArgumentException {
        checkNumber(cable, cables.count);
        if (k < 0) {
            throw new IllegalArgumentException("k is below 0");
        }
        return k < cables.wayCounts[cable] ? cables.wayTrays[cable][k] : NONE;
    }

    /** Whether there are sizes with which all cables are right. */
    public boolean settled() {
        findLeast();
        return leastExists;
    }

    /** A cable's size of the least sizes; NONE if there are none. */
    public int chosen(int cable) throws IllegalArgumentException {
        checkNumber(cable, cables.count);
        findLeast();
        return leastExists ? least.picks[cable] : NONE;
    }

    /** Of a tray with the least sizes: its fill (0), its factor (1), its number of cables (2). */
    public int told(int tray, int what) throws IllegalArgumentException {
        checkNumber(tray, trays.count);
        checkBounds(what, TRAY_FILL, TRAY_CABLES);
        if (what == TRAY_CABLES) {
            return cables.countThrough(tray);
        }
        findLeast();
        if (!leastExists) {
            return NONE;
        }
        return what == TRAY_FACTOR ? least.factorOf(tray) : least.fills[tray];
    }

    /** Of a cable with the least sizes: its drop (0), what it may carry (1). */
    public int cableAt(int cable, int what) throws IllegalArgumentException {
        checkNumber(cable, cables.count);
        checkBounds(what, CABLE_DROP, CABLE_CARRIES);
        findLeast();
        if (!leastExists) {
            return NONE;
        }
        return what == CABLE_DROP ? least.dropOf(cable) : least.carriedBy(cable);
    }

    /** The sum of area times length over all cables' ways, with the least sizes; NONE if there are none. */
    public int copper() {
        findLeast();
        return leastExists ? least.sumOfCopper() : NONE;
    }

    /** Whether all cables would be right with these sizes, a digit of the base of 6 for each cable, the lowest first. */
    public boolean right(long digits) throws IllegalArgumentException {
        if (digits < 0) {
            throw new IllegalArgumentException("digits are below 0");
        }
        long rest = digits;
        for (int cable = 0; cable < cables.count; cable++) {
            int pick = (int) (rest % BASE);
            checkNumber(pick, sizes.count);
            trial.picks[cable] = pick;
            rest = rest / BASE;
        }
        if (rest != 0) {
            throw new IllegalArgumentException("a digit behind the last cable is not 0");
        }
        trial.fillTrays();
        return trial.allAreRight(dropLimit);
    }

    private void findLeast() {
        if (!leastIsKnown) {
            leastExists = least.climb(dropLimit);
            leastIsKnown = true;
        }
    }

    private static void checkBounds(int number, int lowest, int highest) {
        if (number < lowest || number > highest) {
            throw new IllegalArgumentException("a number is out of its bounds");
        }
    }

    private static void checkNumber(int number, int count) {
        if (number < 0 || number >= count) {
            throw new IllegalArgumentException("there is no such tray, size or cable");
        }
    }

    private static void checkNodes(int node, int other) {
        checkBounds(node, 0, NODES - 1);
        checkBounds(other, 0, NODES - 1);
        if (node == other) {
            throw new IllegalArgumentException("both nodes are one");
        }
    }

    /** The trays as they came; of all numbers only rooms change later. */
    private static final class Trays {
        private int count;
        private final int[] nodes;
        private final int[] others;
        private final int[] lengths;
        private final int[] rooms;
        private final int[] distances;

        Trays() {
            count = 0;
            nodes = new int[MOST_TRAYS];
            others = new int[MOST_TRAYS];
            lengths = new int[MOST_TRAYS];
            rooms = new int[MOST_TRAYS];
            distances = new int[NODES];
        }

        int add(int node, int other, int length, int room) {
            int number = count;
            nodes[number] = node;
            others[number] = other;
            lengths[number] = length;
            rooms[number] = room;
            count = number + 1;
            return number;
        }

        /** Sets every node's distance to the target, FAR where no trays lead there. */
        void measureTo(int target) {
            Arrays.fill(distances, FAR);
            distances[target] = 0;
            boolean shortened = true;
            for (int round = 0; shortened && round < NODES; round++) {
                shortened = false;
                for (int tray = 0; tray < count; tray++) {
                    boolean forth = shorten(nodes[tray], others[tray], lengths[tray]);
                    boolean back = shorten(others[tray], nodes[tray], lengths[tray]);
                    shortened = shortened || forth || back;
                }
            }
        }

        private boolean shorten(int node, int over, int length) {
            int distance = distances[over] + length;
            if (distance >= distances[node]) {
                return false;
            }
            distances[node] = distance;
            return true;
        }

        /** The first tray from here that is on a shortest way to the node last measured to, or NONE. */
        int firstTowardsTarget(int node) {
            for (int tray = 0; tray < count; tray++) {
                int next = endBehind(tray, node);
                if (next != NONE && distances[next] + lengths[tray] == distances[node]) {
                    return tray;
                }
            }
            return NONE;
        }

        /** The tray's end that is not this node; NONE if the tray does not touch it. */
        int endBehind(int tray, int node) {
            if (nodes[tray] == node) {
                return others[tray];
            }
            return others[tray] == node ? nodes[tray] : NONE;
        }
    }

    /** The sizes as they came. */
    private static final class Sizes {
        private int count;
        private final int[] areas;
        private final int[] ratings;
        private final int[] ohms;

        Sizes() {
            count = 0;
            areas = new int[MOST_SIZES];
            ratings = new int[MOST_SIZES];
            ohms = new int[MOST_SIZES];
        }

        boolean mayFollow(int area, int rating, int ohm) {
            if (count == 0) {
                return true;
            }
            int last = count - 1;
            return area > areas[last] && rating >= ratings[last] && ohm <= ohms[last];
        }

        int add(int area, int rating, int ohm) {
            int number = count;
            areas[number] = area;
            ratings[number] = rating;
            ohms[number] = ohm;
            count = number + 1;
            return number;
        }
    }

    /** The cables as they came, with their ways; a loose cable's way has no trays and the length 0. */
    private static final class Cables {
        private int count;
        private final int[] nodes;
        private final int[] others;
        private final int[] currents;
        private final int[] wayCounts;
        private final int[] wayLengths;
        private final int[][] wayTrays;

        Cables() {
            count = 0;
            nodes = new int[MOST_CABLES];
            others = new int[MOST_CABLES];
            currents = new int[MOST_CABLES];
            wayCounts = new int[MOST_CABLES];
            wayLengths = new int[MOST_CABLES];
            wayTrays = new int[MOST_CABLES][MOST_TRAYS_OF_A_WAY];
        }

        int add(int node, int other, int amount) {
            int number = count;
            nodes[number] = node;
            others[number] = other;
            currents[number] = amount;
            count = number + 1;
            return number;
        }

        boolean isLoose(int cable) {
            return wayCounts[cable] == 0;
        }

        void findWay(int cable, Trays trays) {
            trays.measureTo(others[cable]);
            wayCounts[cable] = 0;
            wayLengths[cable] = 0;
            if (trays.distances[nodes[cable]] >= FAR) {
                return;
            }
            // Every shortest way goes on from a node by a tray that nears the target by its whole
            // length, so the lowest such tray at each node gives the first way of them all.
            int node = nodes[cable];
            for (int step = 0; node != others[cable] && step < MOST_TRAYS_OF_A_WAY; step++) {
                int tray = trays.firstTowardsTarget(node);
                if (tray == NONE) {
                    break;
                }
                wayTrays[cable][step] = tray;
                wayCounts[cable] = step + 1;
                wayLengths[cable] += trays.lengths[tray];
                node = trays.endBehind(tray, node);
            }
        }

        int countThrough(int tray) {
            int through = 0;
            for (int cable = 0; cable < count; cable++) {
                for (int step = 0; step < wayCounts[cable]; step++) {
                    if (wayTrays[cable][step] == tray) {
                        through++;
                    }
                }
            }
            return through;
        }
    }

    /** A size for each cable, and the fills that the trays have with them. */
    private static final class Sizing {
        private final Trays trays;
        private final Sizes sizes;
        private final Cables cables;
        private final int[] picks;
        private final int[] fills;

        Sizing(Trays trays, Sizes sizes, Cables cables) {
            this.trays = trays;
            this.sizes = sizes;
            this.cables = cables;
            picks = new int[MOST_CABLES];
            fills = new int[MOST_TRAYS];
        }

        /**
         * Goes up from the lowest sizes to the least ones: whether there are some. Greater sizes of
         * others only lower a cable's factors, so a cable that is wrong now is wrong with this size
         * in all sizes above, and to raise it passes none by.
         */
        boolean climb(int dropLimit) {
            Arrays.fill(picks, 0);
            if (cables.count > 0 && sizes.count == 0) {
                return false;
            }
            for (int round = 0; round < MOST_ROUNDS; round++) {
                fillTrays();
                if (allAreRight(dropLimit)) {
                    return true;
                }
                if (!raiseWrongOnes(dropLimit)) {
                    return false;
                }
            }
            return false;
        }

        /** Whether every wrong cable had a greater size to go to. */
        private boolean raiseWrongOnes(int dropLimit) {
            for (int cable = 0; cable < cables.count; cable++) {
                if (!isRightAt(cable, dropLimit)) {
                    if (picks[cable] + 1 >= sizes.count) {
                        return false;
                    }
                    picks[cable]++;
                }
            }
            return true;
        }

        void fillTrays() {
            Arrays.fill(fills, 0);
            for (int cable = 0; cable < cables.count; cable++) {
                for (int step = 0; step < cables.wayCounts[cable]; step++) {
                    fills[cables.wayTrays[cable][step]] += sizes.areas[picks[cable]];
                }
            }
            for (int tray = 0; tray < trays.count; tray++) {
                fills[tray] = fills[tray] * THOUSAND / trays.rooms[tray];
            }
        }

        boolean allAreRight(int dropLimit) {
            for (int cable = 0; cable < cables.count; cable++) {
                if (!isRightAt(cable, dropLimit)) {
                    return false;
                }
            }
            return true;
        }

        private boolean isRightAt(int cable, int dropLimit) {
            if (cables.isLoose(cable)) {
                return true;
            }
            return carriedBy(cable) >= cables.currents[cable] && dropOf(cable) <= dropLimit;
        }

        int carriedBy(int cable) {
            // 1000 is the greatest factor there is, and with it a loose cable carries its rating.
            int factor = THOUSAND;
            for (int step = 0; step < cables.wayCounts[cable]; step++) {
                factor = Math.min(factor, factorOf(cables.wayTrays[cable][step]));
            }
            return sizes.ratings[picks[cable]] * factor / THOUSAND;
        }

        int dropOf(int cable) {
            // At most 1000 * 1000 * 900, which an int holds.
            return cables.currents[cable] * sizes.ohms[picks[cable]] * cables.wayLengths[cable] / THOUSAND;
        }

        int factorOf(int tray) {
            int fill = fills[tray];
            if (fill <= 200) {
                return 1000;
            }
            if (fill <= 400) {
                return 800;
            }
            if (fill <= 600) {
                return 650;
            }
            if (fill <= 800) {
                return 550;
            }
            return fill <= 1000 ? 500 : 0;
        }

        int sumOfCopper() {
            int sum = 0;
            for (int cable = 0; cable < cables.count; cable++) {
                sum += sizes.areas[picks[cable]] * cables.wayLengths[cable];
            }
            return sum;
        }
    }
}
