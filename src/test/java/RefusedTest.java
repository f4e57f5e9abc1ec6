/**
 * "Illegal argument: a number is out of its bounds, there is no such tray, size, cable. Of several exceptions the
 * one named first is thrown; a call that throws changes nothing."
 */
public final class RefusedTest {
    private static final Due DUE = new Due("RefusedTest");

    /** A call that is to throw. */
    private interface Refused {
        long call(CableSizes x);
    }

    private enum World {
        NEW(0, 0, 0), NO_SIZES(2, 0, 3), NO_TRAYS(0, 2, 3), NO_CABLES(2, 2, 0), SETTLED(3, 3, 4), NONE_DO(3, 3, 4),
        FULL(15, 6, 20);

        final int trays;
        final int sizes;
        final int cables;

        World(int trays, int sizes, int cables) {
            this.trays = trays;
            this.sizes = sizes;
            this.cables = cables;
        }

        CableSizes made() {
            CableSizes x = new CableSizes();
            for (int size = 0; size < sizes; size++) {
                x.size(areaOf(size), 20 + 10 * size, 60 - 10 * size);
            }
            for (int tray = 0; tray < trays; tray++) {
                x.tray(tray % 9, tray % 9 + 1, 3 + tray, 600 + tray);
            }
            for (int cable = 0; cable < cables; cable++) {
                x.cable(cable % 4, cable % 4 + 1 + cable % 3, this == NONE_DO ? 900 : 11 + cable);
            }
            x.limit(5000);
            return x;
        }

        static int areaOf(int size) {
            return 5 + 2 * size;
        }

        String told(CableSizes x) {
            return Snapshot.of(x, trays, cables) + Snapshot.hidden(x, trays, cables) + sizesOf(x);
        }

        /** Where another size may follow the last one, the last one is as it was. */
        private String sizesOf(CableSizes x) {
            if (sizes == 0 || sizes == 6) {
                return " " + Snapshot.answerOf(() -> x.size(1, 1, 1000));
            }
            int area = areaOf(sizes - 1);
            int rating = 20 + 10 * (sizes - 1);
            int ohms = 60 - 10 * (sizes - 1);
            return " " + Snapshot.answerOf(() -> x.size(area, 1000, 0))
                + " " + Snapshot.answerOf(() -> x.size(area + 1, rating - 1, 0))
                + " " + Snapshot.answerOf(() -> x.size(area + 1, 1000, ohms + 1))
                + " " + Snapshot.answerOf(() -> x.size(area + 1, rating, ohms));
        }
    }

    public static void main(String[] args) {
        worldsAreAsNamed();
        for (World world : World.values()) {
            trays(world);
            sizes(world);
            cables(world);
            changes(world);
            questions(world);
            digits(world);
        }
        illegalStates();
        bothAtOnce();
        DUE.end();
    }

    private static void worldsAreAsNamed() {
        DUE.holds("SETTLED is settled", World.SETTLED.made().settled());
        DUE.holds("FULL is settled", World.FULL.made().settled());
        DUE.fails("NONE_DO is not", World.NONE_DO.made().settled());
        DUE.fails("NO_SIZES is not", World.NO_SIZES.made().settled());
    }

    private static void argument(World world, String what, Refused refused) {
        refused(world, what, refused, false);
    }

    private static void state(World world, String what, Refused refused) {
        refused(world, what, refused, true);
    }

    /** Both with least sizes that have been found before the call and with such as have not. */
    private static void refused(World world, String what, Refused refused, boolean state) {
        String untouched = world.told(world.made());
        for (int time = 0; time < 2; time++) {
            CableSizes x = world.made();
            String label = world + ": " + what;
            if (time == 1) {
                x.settled();
            }
            if (state) {
                DUE.illegalState(label, () -> refused.call(x));
            } else {
                DUE.illegalArgument(label, () -> refused.call(x));
            }
            DUE.same(label + " changes nothing", world.told(x), untouched);
        }
    }

    private static void trays(World world) {
        argument(world, "tray from node -1", x -> x.tray(-1, 1, 1, 1));
        argument(world, "tray from node 10", x -> x.tray(10, 1, 1, 1));
        argument(world, "tray to node -1", x -> x.tray(1, -1, 1, 1));
        argument(world, "tray to node 10", x -> x.tray(1, 10, 1, 1));
        argument(world, "tray, both nodes one", x -> x.tray(0, 0, 1, 1));
        argument(world, "tray, both nodes one", x -> x.tray(9, 9, 100, 1000));
        argument(world, "tray of length 0", x -> x.tray(0, 2, 0, 1));
        argument(world, "tray of length 101", x -> x.tray(0, 2, 101, 1));
        argument(world, "tray of room 0", x -> x.tray(0, 2, 1, 0));
        argument(world, "tray of room 1001", x -> x.tray(0, 2, 1, 1001));
    }

    private static void sizes(World world) {
        argument(world, "size of area 0", x -> x.size(0, 1000, 0));
        argument(world, "size of area 101", x -> x.size(101, 1000, 0));
        argument(world, "size of rating 0", x -> x.size(100, 0, 0));
        argument(world, "size of rating 1001", x -> x.size(100, 1001, 0));
        argument(world, "size of ohms -1", x -> x.size(100, 1000, -1));
        argument(world, "size of ohms 1001", x -> x.size(100, 1000, 1001));
    }

    private static void cables(World world) {
        argument(world, "cable from node -1", x -> x.cable(-1, 1, 1));
        argument(world, "cable from node 10", x -> x.cable(10, 1, 1));
        argument(world, "cable to node -1", x -> x.cable(1, -1, 1));
        argument(world, "cable to node 10", x -> x.cable(1, 10, 1));
        argument(world, "cable, both nodes one", x -> x.cable(0, 0, 1));
        argument(world, "cable, both nodes one", x -> x.cable(9, 9, 1000));
        argument(world, "cable of current 0", x -> x.cable(0, 1, 0));
        argument(world, "cable of current 1001", x -> x.cable(0, 1, 1001));
    }

    private static void changes(World world) {
        argument(world, "current of cable -1", x -> x.current(-1, 1));
        argument(world, "current of the cable behind the last", x -> x.current(world.cables, 1));
        argument(world, "current of cable 20", x -> x.current(20, 1));
        argument(world, "current 0", x -> x.current(0, 0));
        argument(world, "current 1001", x -> x.current(0, 1001));
        argument(world, "room of tray -1", x -> x.room(-1, 1));
        argument(world, "room of the tray behind the last", x -> x.room(world.trays, 1));
        argument(world, "room of tray 15", x -> x.room(15, 1));
        argument(world, "room 0", x -> x.room(0, 0));
        argument(world, "room 1001", x -> x.room(0, 1001));
        argument(world, "limit -1", x -> x.limit(-1));
        argument(world, "limit 1000001", x -> x.limit(1000001));
    }

    private static void questions(World world) {
        argument(world, "way of cable -1", x -> x.way(-1));
        argument(world, "way of the cable behind the last", x -> x.way(world.cables));
        argument(world, "tray 0 of the way of cable -1", x -> x.way(-1, 0));
        argument(world, "tray 0 of the way of the cable behind the last", x -> x.way(world.cables, 0));
        argument(world, "tray -1 of a way", x -> x.way(0, -1));
        argument(world, "chosen for cable -1", x -> x.chosen(-1));
        argument(world, "chosen for the cable behind the last", x -> x.chosen(world.cables));
        for (int what = -1; what <= 3; what++) {
            int asked = what;
            argument(world, "told of tray -1, " + what, x -> x.told(-1, asked));
            argument(world, "told of the tray behind the last, " + what, x -> x.told(world.trays, asked));
            argument(world, "cableAt of cable -1, " + what, x -> x.cableAt(-1, asked));
            argument(world, "cableAt of the cable behind the last, " + what, x -> x.cableAt(world.cables, asked));
        }
        argument(world, "told -1", x -> x.told(0, -1));
        argument(world, "told 3", x -> x.told(0, 3));
        argument(world, "cableAt -1", x -> x.cableAt(0, -1));
        argument(world, "cableAt 2", x -> x.cableAt(0, 2));
    }

    private static void digits(World world) {
        long behind = 1;
        for (int cable = 0; cable < world.cables; cable++) {
            behind *= 6;
        }
        long first = behind;
        argument(world, "right(-1)", x -> x.right(-1) ? 1 : 0);
        argument(world, "right of the least long", x -> x.right(Long.MIN_VALUE) ? 1 : 0);
        argument(world, "right of the greatest long", x -> x.right(Long.MAX_VALUE) ? 1 : 0);
        argument(world, "right, 1 behind the last cable", x -> x.right(first) ? 1 : 0);
        argument(world, "right, 5 behind the last cable", x -> x.right(5 * first) ? 1 : 0);
        argument(world, "right, 1 further behind", x -> x.right(36 * first) ? 1 : 0);
        if (world.cables > 0 && world.sizes < 6) {
            argument(world, "right, no such size first", x -> x.right(world.sizes) ? 1 : 0);
            argument(world, "right, no such size last", x -> x.right(world.sizes * (first / 6)) ? 1 : 0);
            argument(world, "right, digit 5 first", x -> x.right(5) ? 1 : 0);
            argument(world, "right, digit 5 last", x -> x.right(5 * (first / 6)) ? 1 : 0);
        }
    }

    private static void illegalStates() {
        state(World.FULL, "a tray more", x -> x.tray(0, 1, 1, 1));
        state(World.FULL, "a tray more", x -> x.tray(9, 8, 100, 1000));
        state(World.FULL, "a size more", x -> x.size(100, 1000, 0));
        state(World.FULL, "a size more", x -> x.size(1, 1, 1000));
        state(World.FULL, "a cable more", x -> x.cable(0, 1, 1));
        state(World.FULL, "a cable more", x -> x.cable(9, 8, 1000));
        World[] some = {World.NO_TRAYS, World.NO_CABLES, World.SETTLED, World.NONE_DO};
        for (World world : some) {
            int area = World.areaOf(world.sizes - 1);
            int rating = 10 + 10 * world.sizes;
            int ohms = 70 - 10 * world.sizes;
            state(world, "the same area", x -> x.size(area, 1000, 0));
            state(world, "a lesser area", x -> x.size(area - 1, 1000, 0));
            state(world, "the least area", x -> x.size(1, 1000, 0));
            state(world, "a lesser rating", x -> x.size(area + 1, rating - 1, 0));
            state(world, "the least rating", x -> x.size(100, 1, 0));
            state(world, "more ohms", x -> x.size(area + 1, 1000, ohms + 1));
            state(world, "the most ohms", x -> x.size(100, 1000, 1000));
        }
    }

    /** A wrong argument where there is no room either: the illegal argument is named first. */
    private static void bothAtOnce() {
        argument(World.FULL, "both nodes one, and full", x -> x.tray(3, 3, 1, 1));
        argument(World.FULL, "no such node, and full", x -> x.tray(0, 10, 1, 1));
        argument(World.FULL, "length 0, and full", x -> x.tray(0, 1, 0, 1));
        argument(World.FULL, "room 0, and full", x -> x.tray(0, 1, 1, 0));
        argument(World.FULL, "area 0, and full", x -> x.size(0, 1, 1));
        argument(World.FULL, "rating 1001, and full", x -> x.size(100, 1001, 0));
        argument(World.FULL, "ohms -1, and full", x -> x.size(100, 1000, -1));
        argument(World.FULL, "both nodes one, and full", x -> x.cable(3, 3, 1));
        argument(World.FULL, "no such node, and full", x -> x.cable(-1, 0, 1));
        argument(World.FULL, "current 0, and full", x -> x.cable(0, 1, 0));
        argument(World.SETTLED, "area 0, and less than before", x -> x.size(0, 1000, 0));
        argument(World.SETTLED, "rating 0, and less than before", x -> x.size(100, 0, 0));
        argument(World.SETTLED, "ohms 1001, and more than before", x -> x.size(100, 1000, 1001));
        argument(World.SETTLED, "rating 1001 with a lesser area", x -> x.size(1, 1001, 0));
        argument(World.SETTLED, "ohms -1 with a lesser rating", x -> x.size(100, 1, -1));
        argument(World.SETTLED, "area 101 with more ohms", x -> x.size(101, 1000, 1000));
    }
}
