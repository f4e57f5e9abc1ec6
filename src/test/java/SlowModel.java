import java.util.ArrayList;
import java.util.Collections;
import java.util.List;

/** The document's terms word for word: all ways and all sizes are tried. For few cables and sizes only. */
final class SlowModel {
    final List<int[]> trays = new ArrayList<>();
    final List<int[]> sizes = new ArrayList<>();
    final List<int[]> cables = new ArrayList<>();
    int limit = 100000;

    private List<Integer> best;

    /** The trays of a cable's way; null if it is loose. */
    List<Integer> wayOf(int[] cable) {
        best = null;
        tryWays(cable[0], cable[1], new ArrayList<>(), new boolean[10]);
        return best;
    }

    private void tryWays(int node, int target, List<Integer> way, boolean[] seen) {
        if (node == target) {
            if (best == null || isAhead(way, best)) {
                best = new ArrayList<>(way);
            }
            return;
        }
        seen[node] = true;
        for (int t = 0; t < trays.size(); t++) {
            int[] tray = trays.get(t);
            int next = tray[0] == node ? tray[1] : tray[1] == node ? tray[0] : -1;
            if (next >= 0 && !seen[next]) {
                way.add(t);
                tryWays(next, target, way, seen);
                way.remove(way.size() - 1);
            }
        }
        seen[node] = false;
    }

    private boolean isAhead(List<Integer> way, List<Integer> other) {
        if (lengthOf(way) != lengthOf(other)) {
            return lengthOf(way) < lengthOf(other);
        }
        for (int k = 0; k < Math.min(way.size(), other.size()); k++) {
            if (!way.get(k).equals(other.get(k))) {
                return way.get(k) < other.get(k);
            }
        }
        return way.size() < other.size();
    }

    int lengthOf(List<Integer> way) {
        int length = 0;
        for (int t : way) {
            length += trays.get(t)[2];
        }
        return length;
    }

    List<List<Integer>> allWays() {
        List<List<Integer>> ways = new ArrayList<>();
        for (int[] cable : cables) {
            ways.add(wayOf(cable));
        }
        return ways;
    }

    int fillOf(int tray, int[] picks, List<List<Integer>> ways) {
        int sum = 0;
        for (int c = 0; c < cables.size(); c++) {
            if (ways.get(c) != null && ways.get(c).contains(tray)) {
                sum += sizes.get(picks[c])[0];
            }
        }
        return sum * 1000 / trays.get(tray)[3];
    }

    static int factorOf(int fill) {
        return fill > 1000 ? 0 : fill > 800 ? 500 : fill > 600 ? 550 : fill > 400 ? 650 : fill > 200 ? 800 : 1000;
    }

    int carriedBy(int c, int[] picks, List<List<Integer>> ways) {
        List<Integer> factors = new ArrayList<>(List.of(1000));
        if (ways.get(c) != null) {
            for (int t : ways.get(c)) {
                factors.add(factorOf(fillOf(t, picks, ways)));
            }
        }
        return sizes.get(picks[c])[1] * Collections.min(factors) / 1000;
    }

    int dropOf(int c, int[] picks, List<List<Integer>> ways) {
        long length = ways.get(c) == null ? 0 : lengthOf(ways.get(c));
        return (int) (cables.get(c)[2] * (long) sizes.get(picks[c])[2] * length / 1000);
    }

    boolean allRight(int[] picks, List<List<Integer>> ways) {
        return lastWrong(picks, ways) < 0;
    }

    /** The last cable that is not right; -1 if all are. */
    int lastWrong(int[] picks, List<List<Integer>> ways) {
        for (int c = cables.size() - 1; c >= 0; c--) {
            if (ways.get(c) != null
                && (carriedBy(c, picks, ways) < cables.get(c)[2] || dropOf(c, picks, ways) > limit)) {
                return c;
            }
        }
        return -1;
    }

    /** The sizes for all cables that are right, and of which no other right ones have a lesser one; null if none. */
    int[] leastSizes(List<List<Integer>> ways) {
        List<int[]> right = new ArrayList<>();
        int[] picks = new int[cables.size()];
        if (!cables.isEmpty() && sizes.isEmpty()) {
            return null;
        }
        do {
            if (allRight(picks, ways)) {
                right.add(picks.clone());
            }
        } while (countUp(picks));
        for (int[] one : right) {
            boolean least = true;
            for (int[] other : right) {
                for (int c = 0; c < one.length; c++) {
                    least = least && one[c] <= other[c];
                }
            }
            if (least) {
                return one;
            }
        }
        if (!right.isEmpty()) {
            throw new AssertionError("right sizes without least ones");
        }
        return null;
    }

    private boolean countUp(int[] picks) {
        for (int c = 0; c < picks.length; c++) {
            picks[c]++;
            if (picks[c] < sizes.size()) {
                return true;
            }
            picks[c] = 0;
        }
        return false;
    }
}
