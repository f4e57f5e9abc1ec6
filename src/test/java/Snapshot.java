import java.util.function.Supplier;

/** All that an object tells through its reading calls, as one text. */
final class Snapshot {
    private Snapshot() {
    }

    static String of(CableSizes x, int trays, int cables) {
        StringBuilder text = new StringBuilder();
        text.append(x.settled()).append(' ').append(x.copper());
        for (int tray = 0; tray < trays; tray++) {
            text.append(" t").append(tray);
            for (int what = 0; what <= 2; what++) {
                text.append(',').append(x.told(tray, what));
            }
        }
        for (int cable = 0; cable < cables; cable++) {
            text.append(" c").append(cable).append(',').append(x.chosen(cable)).append(',').append(x.way(cable));
            for (int k = 0; x.way(cable, k) != CableSizes.NONE; k++) {
                text.append('/').append(x.way(cable, k));
            }
            text.append(',').append(x.cableAt(cable, 0)).append(',').append(x.cableAt(cable, 1));
        }
        return text.toString();
    }

    /** What only the changing calls tell: currents, rooms and the limit, all set back, and the next numbers. */
    static String hidden(CableSizes x, int trays, int cables) {
        StringBuilder text = new StringBuilder(" hidden");
        for (int cable = 0; cable < cables; cable++) {
            int current = x.current(cable, 1);
            x.current(cable, current);
            text.append(' ').append(current);
        }
        for (int tray = 0; tray < trays; tray++) {
            int room = x.room(tray, 1);
            x.room(tray, room);
            text.append(' ').append(room);
        }
        int limit = x.limit(1);
        x.limit(limit);
        text.append(' ').append(limit);
        text.append(' ').append(answerOf(() -> x.cable(0, 1, 1)));
        text.append(' ').append(answerOf(() -> x.tray(0, 1, 1, 1)));
        return text.toString();
    }

    static String answerOf(Due.Call call) {
        return textOf(() -> Long.toString(call.answer()));
    }

    /** The answer, or the exception's name. */
    static String textOf(Supplier<String> call) {
        try {
            return call.get();
        } catch (RuntimeException e) {
            return e.getClass().getSimpleName();
        }
    }
}
