/** Each sentence of promises 1 to 12 (items, bags, packing, delivery), at its boundaries. */
public final class CourierBagsPackingEdgesTest extends DocumentTest {
    public static void main(String[] args) {
        newObject();
        addBag();
        addItem();
        removeItem();
        pack();
        packThrows();
        canPack();
        unpack();
        autoPack();
        autoPackOrder();
        deliver();
        nextStop();
        deliveredCount();
        deliveredWeight();
        finish();
    }

    private static void newObject() {
        promise(1);
        sentence("Creates a depot without items and bags.", () -> {
            CourierBags x = new CourierBags();
            is("0 0 0", x.itemCount() + " " + x.depotCount() + " " + x.bagCount());
            is("0 0", x.deliveredCount() + " " + x.deliveredWeight());
            is(false, x.exists(0));
            is(true, x.isConsistent());
            is("", States.labelAsItStands(x));
            throwing(INDEX, () -> x.itemAtRank(0));
            throwing(INDEX, () -> x.limitOf(0));
            throwing(STATE, x::undo);
            throwing(STATE, x::restore);
            throwing(ELEMENT, x::refusalReason);
            throwing(ELEMENT, x::errorPosition);
            throwing(ELEMENT, x::failedCommand);
            is(1, x.type('b'));
            is(0, new CourierBags().addItem(1, 1, 1, false));
        });
    }

    // ---- bags and items

    private static void addBag() {
        promise(2);
        sentence("Adds an empty bag.", () -> {
            CourierBags x = new CourierBags();
            x.addItem(1, 1, 1, false);
            x.addBag(9);
            is("1 0 0 9", x.bagCount() + " " + x.layerCount(0) + " " + x.weightIn(0) + " " + x.weightLeft(0));
            x.pack(0, 0);
            x.addBag(9);
            x.addBag(9);
            is("1 0 0", x.layerCount(0) + " " + x.layerCount(1) + " " + x.layerCount(2));
        });
        sentence("`limit`: its weight limit, 1 to 99", () -> {
            CourierBags x = States.withBags(1, 99);
            is("1 99", x.limitOf(0) + " " + x.limitOf(1));
        });
        sentence("Returns the number of the bag.", () -> {
            CourierBags x = new CourierBags();
            is("0 1 2", x.addBag(99) + " " + x.addBag(1) + " " + x.addBag(99));
        });
        sentence("Throws `IllegalArgumentException` if the limit is out of range", () -> {
            for (int limit : new int[] {LEAST, -99, -1, 0, 100, 101, MOST}) {
                refused(ARGUMENT, States::empty, x -> x.addBag(limit));
                refused(ARGUMENT, States::full, x -> x.addBag(limit));
            }
        });
        sentence("Throws `IllegalStateException` if there are 3 bags", () -> {
            refused(STATE, States::full, x -> x.addBag(1));
            refused(STATE, () -> States.withBags(1, 1, 1), x -> x.addBag(99));
            is(2, States.withBags(1, 1).addBag(1));
        });
    }

    private static void addItem() {
        promise(3);
        sentence("Adds an item to the depot.", () -> {
            CourierBags x = States.withBags(99);
            x.addItem(1, 1, 1, false);
            is("1 1 false", x.itemCount() + " " + x.depotCount() + " " + x.isPacked(0));
        });
        sentence("`size`: its size, 1 to 10", () -> {
            is(1, added(1, 5, 5, false).sizeOf(0));
            is(10, added(10, 5, 5, false).sizeOf(0));
        });
        sentence("`weight`: its weight, 1 to 20", () -> {
            is(1, added(5, 1, 5, false).weightOf(0));
            is(20, added(5, 20, 5, false).weightOf(0));
        });
        sentence("`stop`: its stop, 1 to 30", () -> {
            is(1, added(5, 5, 1, false).stopOf(0));
            is(30, added(5, 5, 30, false).stopOf(0));
        });
        sentence("`isFragile`: whether it is fragile", () -> {
            is(false, added(5, 5, 5, false).isFragile(0));
            is(true, added(5, 5, 5, true).isFragile(0));
        });
        sentence("Returns the id of the item.", () -> {
            CourierBags x = new CourierBags();
            for (int id = 0; id < 12; id++) {
                is(id, x.addItem(1, 1, 1, false));
                is(true, x.exists(id));
            }
        });
        sentence("Throws `IllegalArgumentException` if the size, the weight or the stop is out of range", () -> {
            for (int size : new int[] {LEAST, -1, 0, 11, 12, MOST}) {
                refused(ARGUMENT, States::empty, x -> x.addItem(size, 1, 1, false));
                refused(ARGUMENT, States::full, x -> x.addItem(size, 20, 30, true));
            }
            for (int weight : new int[] {LEAST, -1, 0, 21, 22, MOST}) {
                refused(ARGUMENT, States::empty, x -> x.addItem(1, weight, 1, false));
                refused(ARGUMENT, States::full, x -> x.addItem(10, weight, 30, true));
            }
            for (int stop : new int[] {LEAST, -1, 0, 31, 32, MOST}) {
                refused(ARGUMENT, States::empty, x -> x.addItem(1, 1, stop, false));
                refused(ARGUMENT, States::full, x -> x.addItem(10, 20, stop, true));
            }
        });
        sentence("Throws `IllegalStateException` if there are 12 items", () -> {
            refused(STATE, States::full, x -> x.addItem(1, 1, 1, false));
            refused(STATE, () -> withItems(12), x -> x.addItem(10, 20, 30, true));
            is(11, withItems(11).addItem(1, 1, 1, false));
        });
    }

    private static CourierBags added(int size, int weight, int stop, boolean isFragile) {
        CourierBags x = new CourierBags();
        x.addItem(size, weight, stop, isFragile);
        return x;
    }

    /** A bag, and items of the size and the weight 1 and the stop 5. */
    private static CourierBags withItems(int count) {
        CourierBags x = States.withBags(99);
        for (int added = 0; added < count; added++) {
            x.addItem(1, 1, 5, false);
        }
        return x;
    }

    private static void removeItem() {
        promise(4);
        sentence("Removes an item from the depot.", () -> {
            CourierBags x = withItems(1);
            x.removeItem(0);
            is("false 0 0", x.exists(0) + " " + x.itemCount() + " " + x.depotCount());
        });
        sentence("`item`: id of the item", () -> {
            for (int id = 0; id < 12; id++) {
                CourierBags x = withItems(12);
                x.removeItem(id);
                for (int other = 0; other < 12; other++) {
                    is(other != id, x.exists(other));
                }
            }
        });
        sentence("Returns the number of items that are left, in the depot or packed.", () -> {
            CourierBags x = withItems(12);
            x.pack(0, 0);
            for (int id = 11; id >= 1; id--) {
                is(id, x.removeItem(id));
            }
            x.unpack(0);
            is(0, x.removeItem(0));
        });
        sentence("Throws `NoSuchElementException` if no item has this id", () -> noSuchItem(CourierBags::removeItem));
        sentence("Throws `IllegalStateException` if the item is packed", () -> {
            for (int id = States.FIRST_ITEM; id <= 10; id++) {
                int packed = id;
                refused(STATE, States::full, x -> x.removeItem(packed));
            }
            is(11, States.full().removeItem(11));
        });
    }

    // ---- packing

    private static void pack() {
        promise(5);
        sentence("Packs an item into a bag.", () -> {
            CourierBags x = withItems(1);
            x.pack(0, 0);
            is("true 1 0", x.isPacked(0) + " " + x.weightIn(0) + " " + x.depotCount());
        });
        sentence("`item`: id of the item", () -> {
            for (int id : new int[] {0, 11}) {
                CourierBags x = withItems(12);
                x.pack(id, 0);
                is("[" + id + "]", States.label(x, 0));
            }
        });
        sentence("`bag`: the bag", () -> {
            for (int bag = 0; bag < 3; bag++) {
                CourierBags x = States.withBags(9, 9, 9);
                x.addItem(1, 1, 1, false);
                is(0, x.pack(0, bag));
                is(bag, x.bagOf(0));
                is(1, x.layerCount(0) + x.layerCount(1) + x.layerCount(2));
            }
        });
        sentence("Returns the layer into which it is put.", () -> {
            CourierBags x = States.withBags(99);
            for (int id = 0; id < 10; id++) {
                x.addItem(5, 1, 1, false);
                is(id / 2, x.pack(id, 0));
            }
        });
    }

    private static void packThrows() {
        sentence("Throws `NoSuchElementException` if no item has this id", () -> {
            noSuchItem((x, id) -> x.pack(id, 0));
            noSuchItem((x, id) -> x.pack(id, 3));
        });
        sentence("Throws `IndexOutOfBoundsException` if there is no such bag", () -> {
            for (int bag : new int[] {LEAST, -1, 3, MOST}) {
                refused(INDEX, States::full, x -> x.pack(States.LAST_ITEM, bag));
                refused(INDEX, States::full, x -> x.pack(States.FIRST_ITEM, bag));
            }
            refused(INDEX, () -> withItems(1), x -> x.pack(0, 1));
            refused(INDEX, () -> added(1, 1, 1, false), x -> x.pack(0, 0));
        });
        sentence("Throws `IllegalStateException` if the item is packed", () -> {
            for (int bag = 0; bag < 3; bag++) {
                int other = bag;
                refused(STATE, States::full, x -> x.pack(States.FIRST_ITEM, other));
                refused(STATE, States::full, x -> x.pack(8, other));
                refused(STATE, States::full, x -> x.pack(10, other));
            }
        });
        sentence("Throws `UnsupportedOperationException` if the packing is refused; the refusal is stored", () -> {
            int[][] refusals = {{11, 0, CourierBags.NO_SPACE}, {12, 0, CourierBags.NO_SPACE}, {13, 0, CourierBags.NO_SPACE},
                {11, 1, CourierBags.TOO_HEAVY}, {13, 1, CourierBags.TOO_HEAVY}, {12, 2, CourierBags.TOO_HEAVY},
                {13, 2, CourierBags.TOO_HEAVY}};
            for (int[] row : refusals) {
                refused(REFUSED, States::full, x -> x.pack(row[0], row[1]), "refusal");
                CourierBags x = States.full();
                States.outcome(() -> x.pack(row[0], row[1]));
                is(row[2] + " " + row[0], States.refusal(x));
            }
            CourierBags late = States.full();
            late.unpack(8);
            throwing(REFUSED, () -> late.pack(12, 0));
            is(CourierBags.WRONG_ORDER + " 12", States.refusal(late));
            late.removeItem(11);
            late.addItem(1, 9, 1, false);
            throwing(REFUSED, () -> late.pack(14, 0));
            is(CourierBags.TOO_FRAGILE + " 14", States.refusal(late));
            is(4, late.pack(8, 0));
        });
    }

    private static void canPack() {
        promise(6);
        sentence("Returns whether pack would return normally.", "Returns whether it would.", () -> {
            for (int id = States.FIRST_ITEM; id <= States.LAST_ITEM; id++) {
                for (int bag = 0; bag < 3; bag++) {
                    CourierBags x = States.full();
                    is(id == 11 && bag == 2, x.canPack(id, bag));
                    int item = id;
                    int into = bag;
                    is(x.canPack(id, bag), !States.outcome(() -> x.pack(item, into)).endsWith("Exception"));
                }
            }
        });
        sentence("No refusal is stored.", () -> {
            for (int id = States.FIRST_ITEM; id <= States.LAST_ITEM; id++) {
                int item = id;
                unchanged(States::full, x -> x.canPack(item, 0));
                unchanged(States::full, x -> x.canPack(item, 2));
            }
            CourierBags x = States.withBags(1);
            x.addItem(1, 2, 1, false);
            is(false, x.canPack(0, 0));
            throwing(ELEMENT, x::refusalReason);
            throwing(ELEMENT, x::refusedItem);
        });
        sentence("`item`: id of the item", () -> {
            CourierBags x = States.withBags(99);
            x.addItem(10, 20, 30, true);
            is(true, x.canPack(0, 0));
            for (int id = 1; id < 12; id++) {
                x.addItem(1, 1, 1, false);
            }
            is("true true", x.canPack(0, 0) + " " + x.canPack(11, 0));
        });
        sentence("`bag`: the bag", () -> {
            CourierBags x = States.withBags(3, 4, 5);
            x.addItem(1, 4, 1, false);
            is("false true true", x.canPack(0, 0) + " " + x.canPack(0, 1) + " " + x.canPack(0, 2));
        });
        sentence("Throws `NoSuchElementException` if no item has this id", () -> {
            noSuchItem((x, id) -> x.canPack(id, 0));
            noSuchItem((x, id) -> x.canPack(id, 3));
        });
        sentence("Throws `IndexOutOfBoundsException` if there is no such bag", () -> {
            for (int bag : new int[] {LEAST, -1, 3, MOST}) {
                refused(INDEX, States::full, x -> x.canPack(States.LAST_ITEM, bag));
                refused(INDEX, States::full, x -> x.canPack(States.FIRST_ITEM, bag));
            }
            refused(INDEX, () -> withItems(1), x -> x.canPack(0, 1));
            refused(INDEX, () -> added(1, 1, 1, false), x -> x.canPack(0, 0));
        });
    }

    private static void unpack() {
        promise(7);
        sentence("Takes an item out of the top layer of its bag, and puts it back into the depot.", () -> {
            CourierBags x = withItems(3);
            for (int id = 0; id < 3; id++) {
                x.pack(id, 0);
            }
            x.unpack(1);
            is("[0 2] false 1", States.label(x, 0) + " " + x.isPacked(1) + " " + x.depotCount());
            is(2, x.itemAt(0, 0, 1));
            x.unpack(0);
            is("[2]", States.label(x, 0));
            x.unpack(2);
            is("", States.label(x, 0));
            is("3 0", x.depotCount() + " " + x.weightIn(0));
        });
        sentence("A layer without items vanishes.", () -> {
            CourierBags x = States.full();
            x.unpack(8);
            is(4, x.layerCount(0));
            throwing(INDEX, () -> x.itemsInLayer(0, 4));
            x.unpack(9);
            is(1, x.layerCount(1));
            x.unpack(10);
            is(0, x.layerCount(1));
            throwing(INDEX, () -> x.itemsInLayer(1, 0));
        });
        sentence("`item`: id of the item", () -> {
            CourierBags x = States.full();
            x.removeItem(11);
            x.addItem(1, 1, 1, false);
            x.pack(14, 2);
            is(0, x.unpack(14));
            CourierBags first = withItems(1);
            first.pack(0, 0);
            is(0, first.unpack(0));
        });
        sentence("Returns the number of layers of the bag that are left.", () -> {
            CourierBags x = States.full();
            for (int id = 8; id >= 5; id--) {
                is(id - 4, x.unpack(id));
            }
            is("1 1 0", x.unpack(2) + " " + x.unpack(4) + " " + x.unpack(3));
            is("1 0", x.unpack(9) + " " + x.unpack(10));
        });
        sentence("Throws `NoSuchElementException` if no item has this id", () -> noSuchItem(CourierBags::unpack));
        sentence("Throws `IllegalStateException` if the item is not packed, or not in the top layer of its bag", () -> {
            for (int id = 11; id <= States.LAST_ITEM; id++) {
                int free = id;
                refused(STATE, States::full, x -> x.unpack(free));
            }
            for (int id = States.FIRST_ITEM; id <= 7; id++) {
                int below = id;
                refused(STATE, States::full, x -> x.unpack(below));
            }
            is(4, States.full().unpack(8));
            refused(STATE, () -> added(1, 1, 1, false), x -> x.unpack(0));
        });
    }

    private static void autoPack() {
        promise(8);
        sentence("Those whose packing is refused stay in the depot; no refusal is stored.", () -> {
            CourierBags x = States.withBags(99);
            x.addItem(10, 20, 30, true);
            x.addItem(10, 9, 29, false);
            x.addItem(10, 8, 28, false);
            x.addItem(10, 1, 27, false);
            is(2, x.autoPack(0));
            is("[2][0!]", States.label(x, 0));
            is("false false 2", x.isPacked(1) + " " + x.isPacked(3) + " " + x.depotCount());
            throwing(ELEMENT, x::refusalReason);
            throwing(ELEMENT, x::refusedItem);
            CourierBags y = States.full();
            y.autoPack(0);
            is(CourierBags.TOO_HEAVY + " 12", States.refusal(y));
        });
        sentence("`bag`: the bag", () -> {
            for (int bag = 0; bag < 3; bag++) {
                CourierBags x = States.withBags(9, 9, 9);
                x.addItem(1, 1, 1, false);
                x.autoPack(bag);
                is(bag, x.bagOf(0));
            }
        });
        sentence("Returns the number of items that are packed.", () -> {
            is(0, States.withBags(99).autoPack(0));
            is(1, withItems(1).autoPack(0));
            CourierBags x = withItems(12);
            is(12, x.autoPack(0));
            is(0, x.autoPack(0));
            is("0 0 1", States.full().autoPack(0) + " " + States.full().autoPack(1) + " " + States.full().autoPack(2));
            CourierBags light = States.withBags(11);
            for (int id = 0; id < 12; id++) {
                light.addItem(1, 1, 1, false);
            }
            is(11, light.autoPack(0));
            is("1 false", light.depotCount() + " " + light.isPacked(11));
        });
        sentence("Throws `IndexOutOfBoundsException` if there is no such bag", () -> noSuchBag(CourierBags::autoPack));
    }

    private static void autoPackOrder() {
        String order = "Packs items of the depot into a bag: the items that are in the depot are tried one after the other, "
                + "the latest stop first, then the heaviest first, then the lowest id first.";
        sentence(order, () -> {
            CourierBags x = States.withBags(99);
            x.addItem(1, 1, 29, false);
            x.addItem(1, 1, 30, false);
            x.addItem(1, 20, 29, false);
            x.addItem(1, 19, 29, false);
            x.addItem(1, 19, 29, true);
            x.addItem(1, 20, 1, false);
            x.addItem(1, 1, 30, false);
            is(7, x.autoPack(0));
            is("[1 6 2 3 4! 0 5]", States.label(x, 0));
        });
        sentence("the items that are in the depot are tried", () -> {
            CourierBags x = States.withBags(99, 99);
            for (int id = 0; id < 4; id++) {
                x.addItem(1, 1, 9, false);
            }
            x.pack(1, 1);
            x.pack(3, 0);
            is(2, x.autoPack(0));
            is("[3 0 2] [1]", States.label(x, 0) + " " + States.label(x, 1));
        });
        sentence("one after the other", () -> {
            CourierBags x = States.withBags(20);
            x.addItem(6, 12, 9, false);
            x.addItem(5, 9, 8, false);
            x.addItem(4, 8, 7, false);
            x.addItem(1, 1, 6, false);
            is(2, x.autoPack(0));
            is("[0 2]", States.label(x, 0));
        });
    }

    // ---- delivery

    private static void deliver() {
        promise(9);
        sentence("Delivers the next stop.", () -> {
            CourierBags x = States.full();
            String[] labels = {"[7!][6][5][2 3 4]", "[7!][6][5][2 3 4]", "[6][5][2 3 4]", "[5][2 3 4]", ""};
            int[] stops = {5, 7, 10, 20, 30};
            for (int step = 0; step < 5; step++) {
                is(stops[step], x.nextStop());
                x.deliver();
                is(labels[step], States.label(x, 0));
            }
            is("3 3", x.itemCount() + " " + x.depotCount());
        });
        sentence("Returns the number of items that are delivered.", () -> {
            CourierBags x = States.full();
            is("1 2 1 1 4", x.deliver() + " " + x.deliver() + " " + x.deliver() + " " + x.deliver() + " " + x.deliver());
            CourierBags all = withItems(12);
            all.autoPack(0);
            is(12, all.deliver());
        });
        sentence("Throws `IllegalStateException` if no item is packed", () -> {
            refused(STATE, States::empty, CourierBags::deliver);
            refused(STATE, () -> withItems(12), CourierBags::deliver);
            refused(STATE, CourierBagsPackingEdgesTest::packedAndUnpacked, CourierBags::deliver);
            refused(STATE, CourierBagsPackingEdgesTest::allDelivered, CourierBags::deliver);
        });
    }

    private static CourierBags packedAndUnpacked() {
        CourierBags x = withItems(2);
        x.pack(0, 0);
        x.unpack(0);
        return x;
    }

    private static CourierBags allDelivered() {
        CourierBags x = withItems(2);
        x.autoPack(0);
        x.deliver();
        return x;
    }

    private static void nextStop() {
        promise(10);
        sentence("Returns the next stop.", "Returns the stop.", () -> {
            for (int stop : new int[] {1, 2, 29, 30}) {
                CourierBags x = States.withBags(99, 99, 99);
                x.addItem(1, 1, 1, false);
                x.addItem(1, 1, 30, false);
                x.pack(1, 0);
                is(30, x.nextStop());
                x.addItem(1, 1, stop, false);
                x.pack(2, 2);
                is(stop, x.nextStop());
            }
        });
        sentence("Throws `NoSuchElementException` if no item is packed", () -> {
            refused(ELEMENT, States::empty, CourierBags::nextStop);
            refused(ELEMENT, () -> withItems(12), CourierBags::nextStop);
            refused(ELEMENT, CourierBagsPackingEdgesTest::packedAndUnpacked, CourierBags::nextStop);
            refused(ELEMENT, CourierBagsPackingEdgesTest::allDelivered, CourierBags::nextStop);
        });
    }

    private static void deliveredCount() {
        promise(11);
        sentence("Returns the number of items that have been delivered so far.", "Returns the number of items.", () -> {
            CourierBags x = States.withBags(99);
            is(0, x.deliveredCount());
            for (int round = 0; round < 3; round++) {
                for (int added = 0; added < 12; added++) {
                    x.addItem(1, 1, 1 + added / 11, false);
                }
                x.autoPack(0);
                is(12 * round, x.deliveredCount());
                x.deliver();
                is(12 * round + 11, x.deliveredCount());
                x.deliver();
                is(12 * round + 12, x.deliveredCount());
            }
            throwing(STATE, x::deliver);
            x.addItem(1, 1, 1, false);
            x.removeItem(36);
            is(36, x.deliveredCount());
            x.undo();
            x.undo();
            x.undo();
            is(35, x.deliveredCount());
        });
    }

    private static void deliveredWeight() {
        promise(12);
        sentence("Returns the weight of all items that have been delivered so far.", "Returns the weight.", () -> {
            CourierBags x = States.withBags(99, 99, 99);
            is(0, x.deliveredWeight());
            int due = 0;
            for (int round = 0; round < 4; round++) {
                for (int added = 0; added < 12; added++) {
                    x.addItem(1, 20, 9, false);
                }
                for (int bag = 0; bag < 3; bag++) {
                    is(4, x.autoPack(bag));
                }
                is(due, x.deliveredWeight());
                x.deliver();
                due += 240;
                is(due, x.deliveredWeight());
            }
            x.addItem(1, 1, 9, false);
            x.autoPack(0);
            x.deliver();
            is(961, x.deliveredWeight());
            x.undo();
            is(960, x.deliveredWeight());
        });
    }
}
