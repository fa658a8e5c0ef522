import java.util.List;
import java.util.function.BiConsumer;
import java.util.function.Function;
import java.util.function.Supplier;

/** Calls of every method, with arguments at each boundary and on either side of it. */
final class EdgeCalls {
    /** A way to make an object. */
    interface State extends Supplier<CourierBags> {
    }

    /** Takes the name of the method and the call. */
    interface Visitor extends BiConsumer<String, Function<CourierBags, ?>> {
    }

    static final List<State> STATES = List.of(States::empty, States::full, States::withMalformedProgram,
            States::withFailingProgram, States::withFullBuffer);

    private static final int LEAST = Integer.MIN_VALUE;
    private static final int MOST = Integer.MAX_VALUE;
    private static final int[] IDS = {LEAST, -1, States.DELIVERED, States.REMOVED, States.FIRST_ITEM, 8, 9, 11, 12,
        States.LAST_ITEM, States.LAST_ITEM + 1, MOST};
    private static final int[] BAGS = {LEAST, -1, 0, 1, 2, 3, MOST};
    private static final int[] LAYERS = {LEAST, -1, 0, 1, 4, 5, MOST};
    private static final int[] POSITIONS = {LEAST, -1, 0, 2, 3, MOST};

    private EdgeCalls() {
    }

    static void visitAll(Visitor visitor) {
        additions(visitor);
        withItem(visitor);
        withItemAndBag(visitor);
        withBag(visitor);
        withLayer(visitor);
        withoutArgument(visitor);
        withIndexOrCharacter(visitor);
    }

    static boolean onlyAsks(String name) {
        return !List.of("addBag", "addItem", "removeItem", "pack", "unpack", "autoPack", "deliver", "writeLabel", "type",
                "execute", "undo", "save", "restore").contains(name);
    }

    private static void additions(Visitor visitor) {
        for (int limit : new int[] {LEAST, -1, 0, 1, 99, 100, MOST}) {
            visitor.accept("addBag", x -> x.addBag(limit));
        }
        for (int size : new int[] {LEAST, 0, 1, 10, 11, MOST}) {
            visitor.accept("addItem", x -> x.addItem(size, 1, 1, false));
        }
        for (int weight : new int[] {LEAST, 0, 1, 20, 21, MOST}) {
            visitor.accept("addItem", x -> x.addItem(10, weight, 30, true));
        }
        for (int stop : new int[] {LEAST, 0, 1, 30, 31, MOST}) {
            visitor.accept("addItem", x -> x.addItem(10, 20, stop, true));
        }
    }

    private static void withItem(Visitor visitor) {
        for (int id : IDS) {
            visitor.accept("removeItem", x -> x.removeItem(id));
            visitor.accept("unpack", x -> x.unpack(id));
            visitor.accept("exists", x -> x.exists(id));
            visitor.accept("sizeOf", x -> x.sizeOf(id));
            visitor.accept("weightOf", x -> x.weightOf(id));
            visitor.accept("stopOf", x -> x.stopOf(id));
            visitor.accept("isFragile", x -> x.isFragile(id));
            visitor.accept("isPacked", x -> x.isPacked(id));
            visitor.accept("bagOf", x -> x.bagOf(id));
            visitor.accept("layerOf", x -> x.layerOf(id));
        }
    }

    private static void withItemAndBag(Visitor visitor) {
        for (int id : IDS) {
            for (int bag : BAGS) {
                visitor.accept("pack", x -> x.pack(id, bag));
                visitor.accept("canPack", x -> x.canPack(id, bag));
            }
        }
    }

    private static void withBag(Visitor visitor) {
        for (int bag : BAGS) {
            visitor.accept("autoPack", x -> x.autoPack(bag));
            visitor.accept("limitOf", x -> x.limitOf(bag));
            visitor.accept("weightIn", x -> x.weightIn(bag));
            visitor.accept("weightInByLayers", x -> x.weightInByLayers(bag));
            visitor.accept("weightLeft", x -> x.weightLeft(bag));
            visitor.accept("layerCount", x -> x.layerCount(bag));
            visitor.accept("bestLoad", x -> x.bestLoad(bag));
            visitor.accept("bestLoadByTable", x -> x.bestLoadByTable(bag));
            visitor.accept("writeLabel", x -> x.writeLabel(bag));
        }
    }

    private static void withLayer(Visitor visitor) {
        for (int bag : BAGS) {
            for (int layer : LAYERS) {
                visitor.accept("itemsInLayer", x -> x.itemsInLayer(bag, layer));
                visitor.accept("sizeUsed", x -> x.sizeUsed(bag, layer));
                visitor.accept("loadOf", x -> x.loadOf(bag, layer));
            }
        }
        for (int bag : new int[] {-1, 0, 1, 2, 3}) {
            for (int layer : new int[] {-1, 0, 4, 5}) {
                for (int position : POSITIONS) {
                    visitor.accept("itemAt", x -> x.itemAt(bag, layer, position));
                }
            }
        }
    }

    private static void withoutArgument(Visitor visitor) {
        visitor.accept("deliver", CourierBags::deliver);
        visitor.accept("nextStop", CourierBags::nextStop);
        visitor.accept("deliveredCount", CourierBags::deliveredCount);
        visitor.accept("deliveredWeight", CourierBags::deliveredWeight);
        visitor.accept("itemCount", CourierBags::itemCount);
        visitor.accept("depotCount", CourierBags::depotCount);
        visitor.accept("bagCount", CourierBags::bagCount);
        visitor.accept("emptiestBag", CourierBags::emptiestBag);
        visitor.accept("shareUsed", CourierBags::shareUsed);
        visitor.accept("isConsistent", CourierBags::isConsistent);
        visitor.accept("refusalReason", CourierBags::refusalReason);
        visitor.accept("refusedItem", CourierBags::refusedItem);
        visitor.accept("execute", CourierBags::execute);
        visitor.accept("errorPosition", CourierBags::errorPosition);
        visitor.accept("failedCommand", CourierBags::failedCommand);
        visitor.accept("undo", CourierBags::undo);
        visitor.accept("save", CourierBags::save);
        visitor.accept("restore", CourierBags::restore);
    }

    private static void withIndexOrCharacter(Visitor visitor) {
        for (int rank : new int[] {LEAST, -1, 0, 11, 12, MOST}) {
            visitor.accept("itemAtRank", x -> x.itemAtRank(rank));
        }
        int last = States.LABEL.length() - 1;
        for (int index : new int[] {LEAST, -1, 0, last, last + 1, MOST}) {
            visitor.accept("labelAt", x -> x.labelAt(index));
        }
        for (int code : new int[] {0, 31, 32, 126, 127, 65535}) {
            visitor.accept("type", x -> x.type((char) code));
        }
    }
}
