import java.util.LinkedHashMap;
import java.util.Map;
import java.util.function.Supplier;

/**
 * Objects that are made the same way again and again, and all that can be learnt of such an object: what can't be asked
 * without a change is asked of another object that was made the same way.
 */
final class States {
    // What stands in the object that full() makes.
    static final int DELIVERED = 0;
    static final int REMOVED = 1;
    static final int FIRST_ITEM = 2;
    static final int LAST_ITEM = 13;
    static final int HIGH_BAG = 0;
    static final int HEAVY_BAG = 1;
    static final int EMPTY_BAG = 2;
    static final String LABEL = "[8][7!][6][5][2 3 4]";

    private static final int UNDO_DEPTH = 8;
    private static final int IDS = 40;
    private static final int MOST_LABEL = 100;

    private States() {
    }

    // ---- ways to make an object

    static CourierBags empty() {
        return new CourierBags();
    }

    static CourierBags withBags(int... limits) {
        CourierBags x = new CourierBags();
        for (int limit : limits) {
            x.addBag(limit);
        }
        return x;
    }

    /**
     * Three bags, the first one with five layers, the second one at its weight limit, the last one empty; twelve items
     * after one that was delivered and one that was removed; more than eight modifications, an older snapshot, a label,
     * characters in the buffer, and a failure of each kind.
     */
    static CourierBags full() {
        CourierBags x = withBags(99, 20);
        x.addItem(1, 5, 1, false);
        x.addItem(1, 1, 1, false);
        x.pack(DELIVERED, 1);
        x.deliver();
        x.removeItem(REMOVED);
        x.save();
        x.addBag(1);
        addTwelveItems(x);
        for (int id = FIRST_ITEM; id <= 8; id++) {
            x.pack(id, HIGH_BAG);
        }
        x.pack(9, HEAVY_BAG);
        x.pack(10, HEAVY_BAG);
        x.writeLabel(HIGH_BAG);
        outcome(() -> x.pack(12, HEAVY_BAG));
        outcome(() -> run(x, "bag"));
        outcome(() -> run(x, "fill 2;bag 1"));
        write(x, "drop 13");
        return x;
    }

    static CourierBags withMalformedProgram() {
        CourierBags x = full();
        write(x, ";");
        return x;
    }

    /** Two commands that succeed before a packing that is refused. */
    static CourierBags withFailingProgram() {
        CourierBags x = full();
        write(x, ";unpack 8;pack 12 1");
        return x;
    }

    static CourierBags withFullBuffer() {
        CourierBags x = full();
        write(x, ";fill 0;fill 0;fill 0;fill 0;fill 0;fill 0;fill 2;bag");
        return x;
    }

    private static void addTwelveItems(CourierBags x) {
        x.addItem(4, 1, 30, false);
        x.addItem(3, 1, 30, false);
        x.addItem(3, 1, 30, false);
        x.addItem(10, 1, 30, false);
        x.addItem(10, 1, 20, false);
        x.addItem(10, 1, 10, true);
        x.addItem(10, 8, 5, false);
        x.addItem(5, 10, 7, false);
        x.addItem(5, 10, 7, false);
        x.addItem(10, 1, 1, false);
        x.addItem(1, 20, 30, false);
        x.addItem(2, 2, 5, true);
    }

    // ---- calls

    static void write(CourierBags x, String text) {
        for (int index = 0; index < text.length(); index++) {
            x.type(text.charAt(index));
        }
    }

    static int run(CourierBags x, String text) {
        write(x, text);
        return x.execute();
    }

    static String label(CourierBags x, int bag) {
        x.writeLabel(bag);
        return labelAsItStands(x);
    }

    static String labelAsItStands(CourierBags x) {
        StringBuilder text = new StringBuilder();
        for (int index = 0; index < MOST_LABEL; index++) {
            int at = index;
            String sign = outcome(() -> x.labelAt(at));
            if (sign.length() != 1) {
                break;
            }
            text.append(sign);
        }
        return text.toString();
    }

    /** The answer of a call, or the name of what it throws. */
    static String outcome(Supplier<?> call) {
        try {
            return String.valueOf(call.get());
        } catch (RuntimeException e) {
            return e.getClass().getSimpleName();
        }
    }

    // ---- all that can be learnt

    static Map<String, String> aspects(Supplier<CourierBags> made) {
        Map<String, String> all = new LinkedHashMap<>();
        all.put("items", items(made.get()));
        all.put("ranks", ranks(made.get()));
        all.put("bags", bags(made.get()));
        all.put("layers", layers(made.get()));
        all.put("delivery", delivery(made.get()));
        all.put("what can be packed", packable(made.get()));
        all.put("next id", nextId(made.get()));
        all.put("refusal", refusal(made.get()));
        all.put("label", labelAsItStands(made.get()));
        all.put("error position", outcome(made.get()::errorPosition));
        all.put("failed command", outcome(made.get()::failedCommand));
        all.put("buffer", buffer(made.get(), made.get()));
        for (int steps = 1; steps <= UNDO_DEPTH + 1; steps++) {
            all.put("undo " + steps, undone(made.get(), steps));
        }
        all.put("snapshot", restored(made.get()));
        return all;
    }

    static String items(CourierBags x) {
        StringBuilder text = new StringBuilder();
        for (int id = 0; id < IDS; id++) {
            if (x.exists(id)) {
                text.append(id).append(':').append(item(x, id)).append("; ");
            }
        }
        return text.append(x.itemCount()).append(' ').append(x.depotCount()).toString();
    }

    static String item(CourierBags x, int id) {
        return x.sizeOf(id) + " " + x.weightOf(id) + " " + x.stopOf(id) + (x.isFragile(id) ? "!" : "")
                + (x.isPacked(id) ? " in " + x.bagOf(id) + "/" + x.layerOf(id) : "");
    }

    private static String ranks(CourierBags x) {
        StringBuilder text = new StringBuilder();
        for (int rank = 0; rank < x.itemCount(); rank++) {
            text.append(x.itemAtRank(rank)).append(' ');
        }
        return text.toString();
    }

    static String bags(CourierBags x) {
        StringBuilder text = new StringBuilder();
        for (int bag = 0; bag < x.bagCount(); bag++) {
            text.append(x.limitOf(bag)).append(' ').append(x.weightIn(bag)).append(' ').append(x.weightInByLayers(bag))
                    .append(' ').append(x.weightLeft(bag)).append(' ').append(x.bestLoad(bag)).append(' ')
                    .append(x.bestLoadByTable(bag)).append("; ");
        }
        return text + outcome(x::emptiestBag) + " " + outcome(x::shareUsed) + " " + x.isConsistent();
    }

    static String layers(CourierBags x) {
        StringBuilder text = new StringBuilder();
        for (int bag = 0; bag < x.bagCount(); bag++) {
            text.append("bag ").append(x.layerCount(bag));
            for (int layer = 0; layer < x.layerCount(bag); layer++) {
                text.append(" /").append(x.sizeUsed(bag, layer)).append(' ').append(x.loadOf(bag, layer)).append(':');
                for (int position = 0; position < x.itemsInLayer(bag, layer); position++) {
                    text.append(' ').append(x.itemAt(bag, layer, position));
                }
            }
            text.append("; ");
        }
        return text.toString();
    }

    private static String delivery(CourierBags x) {
        return outcome(x::nextStop) + " " + x.deliveredCount() + " " + x.deliveredWeight();
    }

    private static String packable(CourierBags x) {
        StringBuilder text = new StringBuilder();
        for (int rank = 0; rank < x.itemCount(); rank++) {
            for (int bag = 0; bag < x.bagCount(); bag++) {
                text.append(x.canPack(x.itemAtRank(rank), bag) ? 'y' : 'n');
            }
        }
        return text.toString();
    }

    private static String nextId(CourierBags x) {
        if (x.itemCount() == 12) {
            outcome(x::deliver);
        }
        if (x.itemCount() == 12) {
            x.removeItem(x.itemAtRank(0));
        }
        return outcome(() -> x.addItem(1, 1, 1, false));
    }

    static String refusal(CourierBags x) {
        return outcome(x::refusalReason) + " " + outcome(x::refusedItem);
    }

    private static String buffer(CourierBags typed, CourierBags executed) {
        return outcome(() -> typed.type('1')) + " " + outcome(executed::execute) + " "
                + outcome(executed::errorPosition) + " " + outcome(executed::failedCommand) + " " + state(executed);
    }

    private static String undone(CourierBags x, int steps) {
        StringBuilder text = new StringBuilder();
        for (int step = 0; step < steps; step++) {
            text.append(outcome(x::undo)).append(' ');
        }
        return text + state(x) + nextId(x);
    }

    private static String restored(CourierBags x) {
        return outcome(x::restore) + " " + state(x) + nextId(x);
    }

    /** What undo and restore bring back, but for the id that is given next. */
    static String state(CourierBags x) {
        return items(x) + " | " + bags(x) + " | " + layers(x) + " | " + delivery(x);
    }
}
