import java.util.Arrays;
import java.util.Map;
import java.util.Random;
import java.util.TreeMap;

/** Runs of calls with right and wrong numbers, many of them at their bounds, beside the strict model. */
public final class WildTest {
    private static final Due DUE = new Due("WildTest");
    private static final int RUNS = 1500;
    private static final int CALLS = 512;
    private static final String[] CHANGES = {"tray", "size", "cable", "current", "room", "limit"};
    private static final String[] QUESTIONS = {"way", "way k", "settled", "chosen", "told", "cableAt", "copper", "right"};
    private static final Map<String, Integer> SEEN = new TreeMap<>();

    private final Random random;
    private final CableSizes x = new CableSizes();
    private final StrictModel model = new StrictModel();
    // Some runs ask for tame numbers, else hardly any cables would do.
    private final boolean tame;
    private final int nodes;
    private final int wrongOf;

    private WildTest(Random random) {
        this.random = random;
        tame = random.nextInt(3) > 0;
        nodes = 2 + random.nextInt(9);
        wrongOf = 4 + random.nextInt(40);
    }

    public static void main(String[] args) {
        Random random = new Random(20261116);
        for (int run = 0; run < RUNS; run++) {
            new WildTest(random).run("run " + run);
        }
        seenAll();
        DUE.end();
    }

    private void run(String name) {
        // Early on mostly changes, later mostly questions, so that the objects are asked when they are full too.
        for (int call = 0; call < CALLS; call++) {
            boolean change = random.nextInt(CALLS) > call || random.nextInt(8) == 0;
            String[] calls = change ? CHANGES : QUESTIONS;
            one(name + " call " + call, calls[random.nextInt(calls.length)]);
        }
    }

    private void one(String name, String call) {
        int[] a = numbersFor(call);
        long digits = digits();
        String due = model.ask(call, a, digits);
        String got = Snapshot.textOf(() -> answer(call, a, digits));
        DUE.same(name + ": " + call + " " + Arrays.toString(a) + " " + digits, got, due);
        String kind = due.startsWith("Illegal") ? due : due.equals("-1") ? "NONE" : due.equals("false") ? due : "answer";
        SEEN.merge(call + " " + kind, 1, Integer::sum);
    }

    private String answer(String call, int[] a, long digits) {
        switch (call) {
            case "tray":
                return "" + x.tray(a[0], a[1], a[2], a[3]);
            case "size":
                return "" + x.size(a[0], a[1], a[2]);
            case "cable":
                return "" + x.cable(a[0], a[1], a[2]);
            case "current":
                return "" + x.current(a[0], a[1]);
            case "room":
                return "" + x.room(a[0], a[1]);
            case "limit":
                return "" + x.limit(a[0]);
            case "way":
                return "" + x.way(a[0]);
            case "way k":
                return "" + x.way(a[0], a[1]);
            case "settled":
                return "" + x.settled();
            case "chosen":
                return "" + x.chosen(a[0]);
            case "told":
                return "" + x.told(a[0], a[1]);
            case "cableAt":
                return "" + x.cableAt(a[0], a[1]);
            case "copper":
                return "" + x.copper();
            default:
                return "" + x.right(digits);
        }
    }

    private int[] numbersFor(String call) {
        switch (call) {
            case "tray":
                return new int[] {node(), node(), number(1, random.nextBoolean() ? 3 : 100, 100), room()};
            case "size":
                return size();
            case "cable":
                return new int[] {node(), node(), number(1, tame ? 60 : 1000, 1000)};
            case "current":
                return new int[] {number(0, model.cables() - 1, 19), number(1, tame ? 60 : 1000, 1000)};
            case "room":
                return new int[] {number(0, model.trays() - 1, 14), room()};
            case "limit":
                return new int[] {number(tame ? 100 : 0, tame ? 100000 : 2000, 1000000)};
            case "told":
                return new int[] {number(0, model.trays() - 1, 14), number(0, 2, 2)};
            case "way k":
                return new int[] {number(0, model.cables() - 1, 19), number(0, 3, 8)};
            default:
                return new int[] {number(0, model.cables() - 1, 19), number(0, 1, 1)};
        }
    }

    private int node() {
        return number(0, nodes - 1, 9);
    }

    private int room() {
        return number(tame ? 300 : 1, 1000, 1000);
    }

    private int[] size() {
        if (model.sizes() == 0) {
            return new int[] {number(1, 10, 100), number(1, tame ? 50 : 1000, 1000), number(0, 1000, 1000)};
        }
        // Around the last size, so that it follows now and then only just, or just not.
        int area = model.lastSize(0) + random.nextInt(tame ? 9 : 20);
        int rating = model.lastSize(1) + random.nextInt(tame ? 60 : 200) - 1;
        int ohms = model.lastSize(2) - random.nextInt(200) + 1;
        return new int[] {random.nextInt(wrongOf) == 0 ? number(1, 100, 100) : area, rating, ohms};
    }

    /** Mostly a usual number, now and then one at the bounds or beside them. */
    private int number(int usualLowest, int usualHighest, int highest) {
        if (random.nextInt(wrongOf) > 0 && usualLowest <= usualHighest) {
            return usualLowest + random.nextInt(usualHighest - usualLowest + 1);
        }
        int[] edges = {Integer.MIN_VALUE, -1, 0, 1, 2, usualHighest, usualHighest + 1, highest - 1, highest, highest + 1,
            Integer.MAX_VALUE};
        return edges[random.nextInt(edges.length)];
    }

    private long digits() {
        long digits = 0;
        for (int cable = 0; cable < model.cables(); cable++) {
            digits = digits * 6 + (random.nextInt(3) > 0 ? Math.max(model.sizes() - 1, 0) : random.nextInt(Math.max(model.sizes(), 1)));
        }
        if (random.nextInt(wrongOf) > 0) {
            return digits;
        }
        long[] edges = {Long.MIN_VALUE, -1, 0, 1, 5, 6, digits * 6, digits + 1, digits - 1, digits + 5, Long.MAX_VALUE,
            Integer.MAX_VALUE, 1L << 32, Math.abs(random.nextLong())};
        return edges[random.nextInt(edges.length)];
    }

    /** Else the runs would say little. */
    private static void seenAll() {
        String[] kinds = {"tray answer", "size answer", "cable answer", "current answer", "room answer", "limit answer",
            "way answer", "way NONE", "way k answer", "way k NONE", "settled answer", "settled false", "chosen answer",
            "chosen NONE", "told answer", "told NONE", "cableAt answer", "cableAt NONE", "copper answer", "copper NONE",
            "right answer", "right false", "tray IllegalStateException", "size IllegalStateException",
            "cable IllegalStateException"};
        for (String kind : kinds) {
            DUE.holds(kind + " is seen often enough in " + SEEN, SEEN.getOrDefault(kind, 0) > 500);
        }
        for (String call : "tray size cable current room limit way chosen told cableAt right".split(" ")) {
            String kind = call + " IllegalArgumentException";
            DUE.holds(kind + " is seen often enough in " + SEEN, SEEN.getOrDefault(kind, 0) > 500);
        }
    }
}
