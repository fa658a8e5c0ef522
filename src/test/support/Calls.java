import java.util.ArrayList;
import java.util.List;
import java.util.function.Function;

/** Every call of the face, to be made of an object and of the ledger that tells what is due. */
final class Calls {
    /** The name is that of the method. */
    record Call(String name, String arguments, Function<CourierBags, Object> real, Function<Ledger, Object> due) {
        @Override
        public String toString() {
            return name + "(" + arguments + ")";
        }
    }

    private Calls() {
    }

    private static Call call(String name, Function<CourierBags, Object> real, Function<Ledger, Object> due,
            Object... arguments) {
        List<String> texts = new ArrayList<>();
        for (Object argument : arguments) {
            texts.add(String.valueOf(argument));
        }
        return new Call(name, String.join(", ", texts), real, due);
    }

    // ---- bags and items, packing and delivery

    static Call addBag(int limit) {
        return call("addBag", x -> x.addBag(limit), m -> m.modify("addBag", Ledger.addBag(m.now, limit)), limit);
    }

    static Call addItem(int size, int weight, int stop, boolean fragile) {
        return call("addItem", x -> x.addItem(size, weight, stop, fragile),
                m -> m.modify("addItem", Ledger.addItem(m.now, size, weight, stop, fragile)), size, weight, stop, fragile);
    }

    static Call removeItem(int id) {
        return call("removeItem", x -> x.removeItem(id), m -> m.modify("removeItem", Ledger.removeItem(m.now, id)), id);
    }

    static Call pack(int id, int bag) {
        return call("pack", x -> x.pack(id, bag), m -> m.modify("pack", Ledger.pack(m.now, id, bag)), id, bag);
    }

    static Call canPack(int id, int bag) {
        return call("canPack", x -> x.canPack(id, bag), m -> m.canPack(id, bag), id, bag);
    }

    static Call unpack(int id) {
        return call("unpack", x -> x.unpack(id), m -> m.modify("unpack", Ledger.unpack(m.now, id)), id);
    }

    static Call autoPack(int bag) {
        return call("autoPack", x -> x.autoPack(bag), m -> m.modify("autoPack", Ledger.autoPack(m.now, bag)), bag);
    }

    static Call deliver() {
        return call("deliver", CourierBags::deliver, m -> m.modify("deliver", Ledger.deliver(m.now)));
    }

    // ---- label and commands, undo and snapshots

    static Call writeLabel(int bag) {
        return call("writeLabel", x -> x.writeLabel(bag), m -> m.writeLabel(bag), bag);
    }

    static Call labelAt(int index) {
        return call("labelAt", x -> x.labelAt(index), m -> m.labelAt(index), index);
    }

    static Call type(char character) {
        return call("type", x -> x.type(character), m -> m.type(character), "'" + character + "' = " + (int) character);
    }

    static Call execute() {
        return call("execute", CourierBags::execute, Ledger::execute);
    }

    static Call undo() {
        return call("undo", CourierBags::undo, Ledger::undo);
    }

    static Call save() {
        return call("save", CourierBags::save, Ledger::save);
    }

    static Call restore() {
        return call("restore", CourierBags::restore, Ledger::restore);
    }

    // ---- questions

    /** All that is asked without an argument. */
    static List<Call> plain() {
        return List.of(
                call("nextStop", CourierBags::nextStop, Ledger::nextStop),
                call("deliveredCount", CourierBags::deliveredCount, m -> m.now.count()),
                call("deliveredWeight", CourierBags::deliveredWeight, m -> m.now.weight()),
                call("itemCount", CourierBags::itemCount, m -> m.now.parcels().size()),
                call("depotCount", CourierBags::depotCount, m -> m.now.those(p -> !p.isPacked()).size()),
                call("bagCount", CourierBags::bagCount, m -> m.now.limits().size()),
                call("emptiestBag", CourierBags::emptiestBag, Ledger::emptiestBag),
                call("shareUsed", CourierBags::shareUsed, Ledger::shareUsed),
                call("isConsistent", CourierBags::isConsistent, m -> true),
                call("refusalReason", CourierBags::refusalReason, m -> m.ofRefusal(m.reason)),
                call("refusedItem", CourierBags::refusedItem, m -> m.ofRefusal(m.refused)),
                call("errorPosition", CourierBags::errorPosition, m -> m.stored(m.errorPosition)),
                call("failedCommand", CourierBags::failedCommand, m -> m.stored(m.failedCommand)));
    }

    static List<Call> ofItem(int id) {
        return List.of(
                call("exists", x -> x.exists(id), m -> m.now.parcel(id) != null, id),
                call("sizeOf", x -> x.sizeOf(id), m -> m.of(id, Ledger.Parcel::size), id),
                call("weightOf", x -> x.weightOf(id), m -> m.of(id, Ledger.Parcel::weight), id),
                call("stopOf", x -> x.stopOf(id), m -> m.of(id, Ledger.Parcel::stop), id),
                call("isFragile", x -> x.isFragile(id), m -> m.of(id, Ledger.Parcel::fragile), id),
                call("isPacked", x -> x.isPacked(id), m -> m.of(id, Ledger.Parcel::isPacked), id),
                call("bagOf", x -> x.bagOf(id), m -> m.ofPacked(id, Ledger.Parcel::bag), id),
                call("layerOf", x -> x.layerOf(id), m -> m.ofPacked(id, p -> m.now.layerOf(p)), id));
    }

    static Call itemAtRank(int rank) {
        return call("itemAtRank", x -> x.itemAtRank(rank), m -> m.itemAtRank(rank), rank);
    }

    static List<Call> ofBag(int bag) {
        return List.of(
                call("limitOf", x -> x.limitOf(bag), m -> m.ofBag(bag, m.now.limits()::get), bag),
                call("weightIn", x -> x.weightIn(bag), m -> m.ofBag(bag, b -> Ledger.weights(m.now.bag(b))), bag),
                call("weightInByLayers", x -> x.weightInByLayers(bag),
                        m -> m.ofBag(bag, b -> Ledger.weights(m.now.bag(b))), bag),
                call("weightLeft", x -> x.weightLeft(bag), m -> m.ofBag(bag, m.now::left), bag),
                call("layerCount", x -> x.layerCount(bag), m -> m.ofBag(bag, b -> m.now.layersBegun(b).size()), bag),
                call("bestLoad", x -> x.bestLoad(bag), m -> m.bestLoad(bag), bag),
                call("bestLoadByTable", x -> x.bestLoadByTable(bag), m -> m.bestLoad(bag), bag));
    }

    static List<Call> ofLayer(int bag, int layer) {
        return List.of(
                call("itemsInLayer", x -> x.itemsInLayer(bag, layer), m -> m.ofLayer(bag, layer, List::size), bag, layer),
                call("sizeUsed", x -> x.sizeUsed(bag, layer), m -> m.ofLayer(bag, layer, Ledger::sizes), bag, layer),
                call("loadOf", x -> x.loadOf(bag, layer),
                        m -> m.ofLayer(bag, layer, parcels -> m.now.weightAbove(parcels.get(0))), bag, layer));
    }

    static Call itemAt(int bag, int layer, int position) {
        return call("itemAt", x -> x.itemAt(bag, layer, position), m -> m.itemAt(bag, layer, position), bag, layer,
                position);
    }

    /** Each question about the ledger's world, and each at the edge of what is there. */
    static List<Call> audit(Ledger ledger) {
        Ledger.World world = ledger.now;
        List<Call> all = new ArrayList<>(plain());
        world.parcels().forEach(parcel -> all.addAll(ofItem(parcel.id())));
        all.addAll(ofItem(world.nextId()));
        for (int rank = 0; rank <= world.parcels().size(); rank++) {
            all.add(itemAtRank(rank));
        }
        for (int bag = 0; bag < world.limits().size(); bag++) {
            all.addAll(ofBag(bag));
            for (int layer = 0; layer < world.layersBegun(bag).size(); layer++) {
                all.addAll(ofLayer(bag, layer));
                for (int position = 0; position <= world.layer(bag, layer).size(); position++) {
                    all.add(itemAt(bag, layer, position));
                }
            }
            all.add(itemAt(bag, world.layersBegun(bag).size(), 0));
        }
        all.add(itemAt(world.limits().size(), 0, 0));
        for (int index = 0; index <= ledger.label.length(); index++) {
            all.add(labelAt(index));
        }
        return all;
    }
}
