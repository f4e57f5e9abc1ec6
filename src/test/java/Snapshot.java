/** All that an object tells through its reading calls, as one text. */
final class Snapshot {
    private Snapshot() {
    }

    static String of(CableSizes x, int trays, int cables) {
        StringBuilder text = new StringBuilder();
        text.append(x.settled()).append(' ').append(x.copper());
        for (int tray = 0; tray < trays; tray++) {
            text.append(" t").append(tray);
            for (int what = 0; what <= 2; what++) {
                text.append(',').append(x.told(tray, what));
            }
        }
        for (int cable = 0; cable < cables; cable++) {
            text.append(" c").append(cable).append(',').append(x.chosen(cable)).append(',').append(x.way(cable));
            for (int k = 0; x.way(cable, k) != CableSizes.NONE; k++) {
                text.append('/').append(x.way(cable, k));
            }
            text.append(',').append(x.cableAt(cable, 0)).append(',').append(x.cableAt(cable, 1));
        }
        return text.toString();
    }
}
