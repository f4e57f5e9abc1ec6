import java.util.List;

/** Every call of the face as the document tells it, over the slow model; an exception is answered by its name. */
final class StrictModel {
    static final String ARGUMENT = "IllegalArgumentException";
    static final String STATE = "IllegalStateException";
    // Up to so many sizes for all cables together the slow model tries them all.
    private static final double MOST_TRIED = 3000;

    private final SlowModel model = new SlowModel();
    private List<List<Integer>> ways;
    private int[] least;
    private boolean waysAreOld = true;
    private boolean leastAreOld = true;

    int trays() {
        return model.trays.size();
    }

    int sizes() {
        return model.sizes.size();
    }

    int cables() {
        return model.cables.size();
    }

    /** The last size's area, rating or ohms. */
    int lastSize(int what) {
        return model.sizes.get(sizes() - 1)[what];
    }

    String ask(String call, int[] a, long digits) {
        bringUpToDate(call);
        switch (call) {
            case "tray":
                return tray(a);
            case "size":
                return size(a);
            case "cable":
                return cable(a);
            case "current":
                return !has(a[0], cables()) || !in(a[1], 1, 1000) ? ARGUMENT : exchange(model.cables.get(a[0]), 2, a[1]);
            case "room":
                return !has(a[0], trays()) || !in(a[1], 1, 1000) ? ARGUMENT : exchange(model.trays.get(a[0]), 3, a[1]);
            case "limit":
                return limit(a[0]);
            case "way":
                return !has(a[0], cables()) ? ARGUMENT : wayOf(a[0]);
            case "way k":
                return !has(a[0], cables()) || a[1] < 0 ? ARGUMENT : trayOfWay(a[0], a[1]);
            case "settled":
                return "" + (least != null);
            case "chosen":
                return !has(a[0], cables()) ? ARGUMENT : least == null ? "-1" : "" + least[a[0]];
            case "told":
                return !has(a[0], trays()) || !in(a[1], 0, 2) ? ARGUMENT : told(a[0], a[1]);
            case "cableAt":
                return !has(a[0], cables()) || !in(a[1], 0, 1) ? ARGUMENT : cableAt(a[0], a[1]);
            case "copper":
                return copper();
            default:
                return right(digits);
        }
    }

    private static boolean in(int number, int lowest, int highest) {
        return lowest <= number && number <= highest;
    }

    private static boolean has(int number, int count) {
        return in(number, 0, count - 1);
    }

    private static boolean nodes(int node, int other) {
        return in(node, 0, 9) && in(other, 0, 9) && node != other;
    }

    private String tray(int[] a) {
        if (!nodes(a[0], a[1]) || !in(a[2], 1, 100) || !in(a[3], 1, 1000)) {
            return ARGUMENT;
        }
        if (trays() == 15) {
            return STATE;
        }
        model.trays.add(a.clone());
        waysAreOld = true;
        leastAreOld = true;
        return "" + (trays() - 1);
    }

    private String size(int[] a) {
        if (!in(a[0], 1, 100) || !in(a[1], 1, 1000) || !in(a[2], 0, 1000)) {
            return ARGUMENT;
        }
        if (sizes() == 6) {
            return STATE;
        }
        if (sizes() > 0 && (a[0] <= lastSize(0) || a[1] < lastSize(1) || a[2] > lastSize(2))) {
            return STATE;
        }
        model.sizes.add(a.clone());
        leastAreOld = true;
        return "" + (sizes() - 1);
    }

    private String cable(int[] a) {
        if (!nodes(a[0], a[1]) || !in(a[2], 1, 1000)) {
            return ARGUMENT;
        }
        if (cables() == 20) {
            return STATE;
        }
        model.cables.add(a.clone());
        waysAreOld = true;
        leastAreOld = true;
        return "" + (cables() - 1);
    }

    private String exchange(int[] row, int at, int amount) {
        int before = row[at];
        row[at] = amount;
        leastAreOld = true;
        return "" + before;
    }

    private String limit(int drop) {
        if (!in(drop, 0, 1000000)) {
            return ARGUMENT;
        }
        int before = model.limit;
        model.limit = drop;
        leastAreOld = true;
        return "" + before;
    }

    private String wayOf(int cable) {
        return ways.get(cable) == null ? "-1" : "" + model.lengthOf(ways.get(cable));
    }

    private String trayOfWay(int cable, int k) {
        List<Integer> way = ways.get(cable);
        return way == null || k >= way.size() ? "-1" : "" + way.get(k);
    }

    private String told(int tray, int what) {
        if (what == 2) {
            return "" + ways.stream().filter(way -> way != null && way.contains(tray)).count();
        }
        if (least == null) {
            return "-1";
        }
        int fill = model.fillOf(tray, least, ways);
        return "" + (what == 0 ? fill : SlowModel.factorOf(fill));
    }

    private String cableAt(int cable, int what) {
        if (least == null) {
            return "-1";
        }
        return "" + (what == 0 ? model.dropOf(cable, least, ways) : model.carriedBy(cable, least, ways));
    }

    private String copper() {
        if (least == null) {
            return "-1";
        }
        int sum = 0;
        for (int cable = 0; cable < cables(); cable++) {
            if (ways.get(cable) != null) {
                sum += model.sizes.get(least[cable])[0] * model.lengthOf(ways.get(cable));
            }
        }
        return "" + sum;
    }

    private String right(long digits) {
        if (digits < 0) {
            return ARGUMENT;
        }
        // The digits as a text, the highest first, with zeros in front for cables that have none.
        String text = "0".repeat(30) + Long.toString(digits, 6);
        int[] picks = new int[cables()];
        for (int k = 0; k < text.length(); k++) {
            int digit = text.charAt(text.length() - 1 - k) - '0';
            if (k < picks.length ? digit >= sizes() : digit != 0) {
                return ARGUMENT;
            }
            if (k < picks.length) {
                picks[k] = digit;
            }
        }
        return "" + model.allRight(picks, ways);
    }

    private void bringUpToDate(String call) {
        boolean ofWays = call.startsWith("way") || call.equals("right");
        boolean ofLeast = List.of("settled", "chosen", "told", "cableAt", "copper").contains(call);
        if ((ofWays || ofLeast) && waysAreOld) {
            ways = model.allWays();
            waysAreOld = false;
        }
        if (ofLeast && leastAreOld) {
            boolean few = Math.pow(Math.max(sizes(), 1), cables()) <= MOST_TRIED;
            least = few ? model.leastSizes(ways) : raised();
            leastAreOld = false;
        }
    }

    /** One wrong cable is raised at a time, the last one first, until none is wrong or one can't be raised. */
    private int[] raised() {
        int[] picks = new int[cables()];
        for (int c = model.lastWrong(picks, ways); c >= 0; c = model.lastWrong(picks, ways)) {
            picks[c]++;
            if (picks[c] == sizes()) {
                return null;
            }
        }
        return picks;
    }
}
