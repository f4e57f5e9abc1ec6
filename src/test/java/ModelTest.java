import java.util.List;
import java.util.Random;

/** Runs of mixed calls, all promises at once, beside the slow model. */
public final class ModelTest {
    private static final Due DUE = new Due("ModelTest");
    private static final int RUNS = 3000;
    private static int settled = 0;
    private static int unsettled = 0;
    private static int pushed = 0;

    public static void main(String[] args) {
        Random random = new Random(20261115);
        for (int run = 0; run < RUNS; run++) {
            oneRun(run, random);
        }
        // Else the runs would say little about the sizes.
        DUE.holds("enough settled: " + settled, settled > RUNS / 4);
        DUE.holds("enough not settled: " + unsettled, unsettled > RUNS / 4);
        DUE.holds("enough with greater sizes: " + pushed, pushed > RUNS / 4);
        DUE.end();
    }

    private static void oneRun(int run, Random random) {
        CableSizes x = new CableSizes();
        SlowModel model = new SlowModel();
        int nodes = 3 + random.nextInt(8);
        // The model tries all sizes of all cables: the more cables, the fewer sizes.
        int mostCables = 1 + random.nextInt(9);
        int mostSizes = mostCables > 6 ? 2 : mostCables > 4 ? 3 : 6;
        for (int step = 0; step < 40; step++) {
            change(x, model, random, nodes, mostCables, mostSizes);
            if (step == 20 || step == 39) {
                compare("run " + run + " step " + step, x, model, random);
            }
        }
    }

    private static void change(CableSizes x, SlowModel model, Random random, int nodes, int mostCables, int mostSizes) {
        int node = random.nextInt(nodes);
        int other = (node + 1 + random.nextInt(nodes - 1)) % nodes;
        switch (random.nextInt(7)) {
            case 0: case 1:
                if (model.trays.size() < 15) {
                    int[] tray = {node, other, 1 + random.nextInt(random.nextBoolean() ? 4 : 100), 20 + random.nextInt(400)};
                    DUE.same("tray", x.tray(tray[0], tray[1], tray[2], tray[3]), model.trays.size());
                    model.trays.add(tray);
                }
                break;
            case 2:
                if (model.sizes.size() < mostSizes) {
                    addSize(x, model, random);
                }
                break;
            case 3:
                if (model.cables.size() < mostCables) {
                    int[] cable = {node, other, 1 + random.nextInt(60)};
                    DUE.same("cable", x.cable(cable[0], cable[1], cable[2]), model.cables.size());
                    model.cables.add(cable);
                }
                break;
            case 4:
                if (!model.cables.isEmpty()) {
                    int c = random.nextInt(model.cables.size());
                    int amount = 1 + random.nextInt(80);
                    DUE.same("current", x.current(c, amount), model.cables.get(c)[2]);
                    model.cables.get(c)[2] = amount;
                }
                break;
            case 5:
                if (!model.trays.isEmpty()) {
                    int t = random.nextInt(model.trays.size());
                    int room = 10 + random.nextInt(500);
                    DUE.same("room", x.room(t, room), model.trays.get(t)[3]);
                    model.trays.get(t)[3] = room;
                }
                break;
            default:
                int limit = random.nextInt(3) == 0 ? random.nextInt(2000) : 100000;
                DUE.same("limit", x.limit(limit), model.limit);
                model.limit = limit;
                break;
        }
    }

    private static void addSize(CableSizes x, SlowModel model, Random random) {
        int[] last = model.sizes.isEmpty() ? new int[] {0, 10, 600} : model.sizes.get(model.sizes.size() - 1);
        int[] size = {last[0] + 1 + random.nextInt(16), last[1] + random.nextInt(30), last[2] - random.nextInt(100)};
        DUE.same("size", x.size(size[0], size[1], size[2]), model.sizes.size());
        model.sizes.add(size);
    }

    private static void compare(String what, CableSizes x, SlowModel model, Random random) {
        List<List<Integer>> ways = model.allWays();
        int[] least = model.leastSizes(ways);
        DUE.same(what + " settled", x.settled() ? 1 : 0, least != null ? 1 : 0);
        compareTrays(what, x, model, ways, least);
        int copper = 0;
        boolean greater = false;
        for (int c = 0; c < model.cables.size(); c++) {
            compareWay(what + " cable " + c, x, model, ways.get(c), c);
            DUE.same(what + " chosen " + c, x.chosen(c), least == null ? -1 : least[c]);
            DUE.same(what + " drop " + c, x.cableAt(c, 0), least == null ? -1 : model.dropOf(c, least, ways));
            DUE.same(what + " carries " + c, x.cableAt(c, 1), least == null ? -1 : model.carriedBy(c, least, ways));
            if (least != null && ways.get(c) != null) {
                copper += model.sizes.get(least[c])[0] * model.lengthOf(ways.get(c));
                greater = greater || least[c] > 0;
            }
        }
        DUE.same(what + " copper", x.copper(), least == null ? -1 : copper);
        settled += least != null ? 1 : 0;
        unsettled += least == null ? 1 : 0;
        pushed += greater ? 1 : 0;
        if (!model.sizes.isEmpty()) {
            compareRight(what, x, model, ways, random);
        }
    }

    private static void compareTrays(String what, CableSizes x, SlowModel model, List<List<Integer>> ways, int[] least) {
        for (int t = 0; t < model.trays.size(); t++) {
            int through = 0;
            for (List<Integer> way : ways) {
                through += way != null && way.contains(t) ? 1 : 0;
            }
            int fill = least == null ? -1 : model.fillOf(t, least, ways);
            DUE.same(what + " fill " + t, x.told(t, 0), fill);
            DUE.same(what + " factor " + t, x.told(t, 1), least == null ? -1 : SlowModel.factorOf(fill));
            DUE.same(what + " cables " + t, x.told(t, 2), through);
        }
    }

    private static void compareWay(String what, CableSizes x, SlowModel model, List<Integer> way, int cable) {
        DUE.same(what + " way", x.way(cable), way == null ? -1 : model.lengthOf(way));
        int count = way == null ? 0 : way.size();
        for (int k = 0; k < count; k++) {
            DUE.same(what + " way " + k, x.way(cable, k), way.get(k));
        }
        DUE.same(what + " way's end", x.way(cable, count), -1);
    }

    private static void compareRight(String what, CableSizes x, SlowModel model, List<List<Integer>> ways, Random random) {
        for (int time = 0; time < 8; time++) {
            int[] picks = new int[model.cables.size()];
            long digits = 0;
            for (int c = picks.length - 1; c >= 0; c--) {
                picks[c] = random.nextInt(model.sizes.size());
                digits = digits * 6 + picks[c];
            }
            DUE.same(what + " right " + digits, x.right(digits) ? 1 : 0, model.allRight(picks, ways) ? 1 : 0);
        }
    }
}
