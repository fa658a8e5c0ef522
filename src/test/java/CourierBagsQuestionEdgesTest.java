import java.util.function.BiFunction;

/** Each sentence of promises 13 to 38 (questions about items and bags), at its boundaries. */
public final class CourierBagsQuestionEdgesTest extends DocumentTest {
    private static final String NO_ITEM = "Throws `NoSuchElementException` if no item has this id";
    private static final String NO_ITEM_IN_BAG = NO_ITEM + ", or it is in the depot";
    private static final String NO_BAG = "Throws `IndexOutOfBoundsException` if there is no such bag";
    private static final String NO_LAYER = NO_BAG + " or layer";

    public static void main(String[] args) {
        itemCount();
        depotCount();
        exists();
        sizeOf();
        weightOf();
        stopOf();
        isFragile();
        isPacked();
        bagOf();
        layerOf();
        itemAtRank();
        bagCount();
        limitOf();
        weightIn();
        weightInByLayers();
        weightLeft();
        layerCount();
        itemsInLayer();
        itemAt();
        sizeUsed();
        loadOf();
        bestLoad(34, "Returns the best load of a bag, by trying all sets of items in the depot.", CourierBags::bestLoad);
        bestLoad(35, "Returns the same size as bestLoad, by a table over weights that is extended item by item.",
                CourierBags::bestLoadByTable);
        emptiestBag();
        shareUsed();
        isConsistent();
        finish();
    }

    /** A bag, and items of the size and the weight 1 and the stop 5. */
    private static CourierBags withItems(int count) {
        CourierBags x = States.withBags(99);
        for (int added = 0; added < count; added++) {
            x.addItem(1, 1, 5, false);
        }
        return x;
    }

    private static void put(CourierBags x, int size, int weight, int bag) {
        x.pack(x.addItem(size, weight, 5, false), bag);
    }

    // ---- questions about items

    private static void itemCount() {
        promise(13);
        sentence("Returns the number of items, in the depot or packed.", "Returns the number of items.", () -> {
            CourierBags x = withItems(0);
            is(0, x.itemCount());
            x.addItem(1, 1, 5, false);
            is(1, x.itemCount());
            x.pack(0, 0);
            is(1, x.itemCount());
            for (int id = 1; id < 12; id++) {
                x.addItem(1, 1, 4, false);
            }
            is(12, x.itemCount());
            x.autoPack(0);
            is(12, x.itemCount());
            x.deliver();
            is(1, x.itemCount());
            x.deliver();
            is(0, x.itemCount());
        });
    }

    private static void depotCount() {
        promise(14);
        sentence("Returns the number of items in the depot.", "Returns the number of items.", () -> {
            is(0, States.empty().depotCount());
            is(3, States.full().depotCount());
            CourierBags x = withItems(12);
            for (int id = 0; id < 12; id++) {
                is(12 - id, x.depotCount());
                x.pack(id, 0);
            }
            is(0, x.depotCount());
            x.unpack(10);
            is(1, x.depotCount());
            x.deliver();
            is(1, x.depotCount());
            x.removeItem(10);
            is(0, x.depotCount());
        });
    }

    private static void exists() {
        promise(15);
        sentence("Returns whether there is an item with an id.", "Returns whether there is one.", () -> {
            CourierBags x = States.full();
            for (int id = -5; id < 40; id++) {
                is(id >= States.FIRST_ITEM && id <= States.LAST_ITEM, x.exists(id));
            }
            CourierBags y = withItems(2);
            y.pack(0, 0);
            is("true true", y.exists(0) + " " + y.exists(1));
            y.deliver();
            y.removeItem(1);
            is("false false", y.exists(0) + " " + y.exists(1));
        });
        sentence("`item`: any id", () -> {
            for (int id : new int[] {LEAST, LEAST + 1, -2, -1, 0, 1, 11, 12, MOST - 1, MOST}) {
                is(false, States.empty().exists(id));
                is(id >= 0 && id <= 11, withItems(12).exists(id));
            }
        });
    }

    private static void sizeOf() {
        promise(16);
        sentence("Returns the size of an item.", "Returns the size.", () -> {
            CourierBags x = new CourierBags();
            for (int size = 1; size <= 10; size++) {
                is(size, x.sizeOf(x.addItem(size, 20, 30, true)));
            }
        });
        sentence("`item`: id of the item", () -> {
            CourierBags x = States.full();
            is("4 2", x.sizeOf(States.FIRST_ITEM) + " " + x.sizeOf(States.LAST_ITEM));
        });
        sentence(NO_ITEM, () -> noSuchItem(CourierBags::sizeOf));
    }

    private static void weightOf() {
        promise(17);
        sentence("Returns the weight of an item.", "Returns the weight.", () -> {
            CourierBags x = new CourierBags();
            for (int weight : new int[] {1, 2, 10, 19, 20}) {
                is(weight, x.weightOf(x.addItem(10, weight, 30, true)));
            }
        });
        sentence("`item`: id of the item", () -> {
            CourierBags x = States.full();
            is("1 2", x.weightOf(States.FIRST_ITEM) + " " + x.weightOf(States.LAST_ITEM));
        });
        sentence(NO_ITEM, () -> noSuchItem(CourierBags::weightOf));
    }

    private static void stopOf() {
        promise(18);
        sentence("Returns the stop of an item.", "Returns the stop.", () -> {
            CourierBags x = new CourierBags();
            for (int stop : new int[] {1, 2, 15, 29, 30}) {
                is(stop, x.stopOf(x.addItem(10, 20, stop, true)));
            }
        });
        sentence("`item`: id of the item", () -> {
            CourierBags x = States.full();
            is("30 5", x.stopOf(States.FIRST_ITEM) + " " + x.stopOf(States.LAST_ITEM));
        });
        sentence(NO_ITEM, () -> noSuchItem(CourierBags::stopOf));
    }

    private static void isFragile() {
        promise(19);
        sentence("Returns whether an item is fragile.", "Returns whether it is fragile.", () -> {
            CourierBags x = new CourierBags();
            is(true, x.isFragile(x.addItem(1, 1, 1, true)));
            is(false, x.isFragile(x.addItem(1, 1, 1, false)));
            x.removeItem(0);
            is(false, x.isFragile(x.addItem(1, 1, 1, false)));
            is(true, x.isFragile(x.addItem(1, 1, 1, true)));
        });
        sentence("`item`: id of the item", () -> {
            CourierBags x = States.full();
            is("false true", x.isFragile(States.FIRST_ITEM) + " " + x.isFragile(States.LAST_ITEM));
        });
        sentence(NO_ITEM, () -> noSuchItem(CourierBags::isFragile));
    }

    private static void isPacked() {
        promise(20);
        sentence("Returns whether an item is packed.", "Returns whether it is packed.", () -> {
            CourierBags x = withItems(1);
            is(false, x.isPacked(0));
            x.pack(0, 0);
            is(true, x.isPacked(0));
            x.unpack(0);
            is(false, x.isPacked(0));
            x.autoPack(0);
            is(true, x.isPacked(0));
            x.undo();
            is(false, x.isPacked(0));
        });
        sentence("`item`: id of the item", () -> {
            CourierBags x = States.full();
            for (int id = States.FIRST_ITEM; id <= States.LAST_ITEM; id++) {
                is(id <= 10, x.isPacked(id));
            }
        });
        sentence(NO_ITEM, () -> noSuchItem(CourierBags::isPacked));
    }

    private static void bagOf() {
        promise(21);
        sentence("Returns the bag of a packed item.", "Returns the bag.", () -> {
            CourierBags x = States.withBags(9, 9, 9);
            for (int id = 0; id < 6; id++) {
                x.addItem(1, 1, 1, false);
                x.pack(id, id % 3);
                is(id % 3, x.bagOf(id));
            }
        });
        sentence("`item`: id of the item", () -> {
            CourierBags x = States.full();
            for (int id = States.FIRST_ITEM; id <= 10; id++) {
                is(id <= 8 ? 0 : 1, x.bagOf(id));
            }
        });
        sentence(NO_ITEM_IN_BAG, () -> {
            noSuchItem(CourierBags::bagOf);
            for (int id = 11; id <= States.LAST_ITEM; id++) {
                int free = id;
                refused(ELEMENT, States::full, x -> x.bagOf(free));
            }
        });
    }

    private static void layerOf() {
        promise(22);
        sentence("Returns the layer of a packed item.", "Returns the layer.", () -> {
            CourierBags x = States.withBags(99);
            for (int id = 0; id < 5; id++) {
                put(x, 10, 1, 0);
                is(id, x.layerOf(id));
            }
        });
        sentence("`item`: id of the item", () -> {
            CourierBags x = States.full();
            int[] layers = {0, 0, 0, 1, 2, 3, 4, 0, 0};
            for (int index = 0; index < layers.length; index++) {
                is(layers[index], x.layerOf(States.FIRST_ITEM + index));
            }
        });
        sentence(NO_ITEM_IN_BAG, () -> {
            noSuchItem(CourierBags::layerOf);
            for (int id = 11; id <= States.LAST_ITEM; id++) {
                int free = id;
                refused(ELEMENT, States::full, x -> x.layerOf(free));
            }
        });
    }

    private static void itemAtRank() {
        promise(23);
        sentence("Returns an item in the order of automatic packing: the latest stop first, then the heaviest first, then "
                + "the lowest id first, whether packed or not.", () -> {
                    CourierBags x = States.withBags(99);
                    x.addItem(9, 20, 1, false);
                    x.addItem(8, 1, 29, true);
                    x.addItem(7, 1, 30, false);
                    x.addItem(6, 20, 29, false);
                    x.addItem(5, 19, 29, true);
                    x.addItem(4, 20, 29, true);
                    x.addItem(3, 1, 30, true);
                    String want = "2 6 3 5 4 1 0 ";
                    is(want, ranks(x));
                    x.pack(6, 0);
                    x.pack(2, 0);
                    is(want, ranks(x));
                });
        sentence("`rank`: the rank, from 0", "Returns the id of the item.", () -> {
            is(0, withItems(1).itemAtRank(0));
            CourierBags x = States.full();
            is("12 11", x.itemAtRank(0) + " " + x.itemAtRank(11));
            is("12 2 3 4 5 6 7 9 10 8 13 11 ", ranks(x));
            x.removeItem(12);
            is("2 11", x.itemAtRank(0) + " " + x.itemAtRank(10));
            CourierBags same = withItems(12);
            for (int rank = 0; rank < 12; rank++) {
                is(rank, same.itemAtRank(rank));
            }
        });
        sentence("Throws `IndexOutOfBoundsException` if there is no such rank", () -> {
            refused(INDEX, States::empty, x -> x.itemAtRank(0));
            refused(INDEX, () -> withItems(1), x -> x.itemAtRank(1));
            refused(INDEX, () -> withItems(11), x -> x.itemAtRank(11));
            for (int rank : new int[] {LEAST, -1, 12, 13, MOST}) {
                refused(INDEX, States::full, x -> x.itemAtRank(rank));
            }
        });
    }

    private static String ranks(CourierBags x) {
        StringBuilder text = new StringBuilder();
        for (int rank = 0; rank < x.itemCount(); rank++) {
            text.append(x.itemAtRank(rank)).append(' ');
        }
        return text.toString();
    }

    // ---- questions about bags

    private static void bagCount() {
        promise(24);
        sentence("Returns the number of bags.", () -> {
            CourierBags x = new CourierBags();
            for (int count = 0; count < 3; count++) {
                is(count, x.bagCount());
                x.addBag(1);
            }
            is(3, x.bagCount());
            throwing(STATE, () -> x.addBag(1));
            is(3, x.bagCount());
        });
    }

    private static void limitOf() {
        promise(25);
        sentence("Returns the weight limit of a bag.", "Returns the limit.", () -> {
            for (int limit : new int[] {1, 2, 98, 99}) {
                is(limit, States.withBags(limit).limitOf(0));
            }
        });
        firstAndLastBag(CourierBags::limitOf, 99, 20, 1);
        sentence(NO_BAG, () -> noSuchBag(CourierBags::limitOf));
    }

    /** The answers for the three bags of the full object. */
    private static void firstAndLastBag(BiFunction<CourierBags, Integer, Integer> call, int... answers) {
        sentence("`bag`: the bag", () -> {
            for (int bag = 0; bag < 3; bag++) {
                is(answers[bag], call.apply(States.full(), bag));
            }
        });
    }

    private static void weightIn() {
        promise(26);
        sentence("Returns the weight of all items in a bag, item by item.", "Returns the weight.",
                () -> weightsFromNoneToTheLimit(CourierBags::weightIn));
        firstAndLastBag(CourierBags::weightIn, 14, 20, 0);
        sentence(NO_BAG, () -> noSuchBag(CourierBags::weightIn));
    }

    private static void weightInByLayers() {
        promise(27);
        sentence("Returns the same weight as weightIn: the load of the lowest layer plus the weight of that layer itself.",
                "Returns the weight.", () -> weightsFromNoneToTheLimit(CourierBags::weightInByLayers));
        firstAndLastBag(CourierBags::weightInByLayers, 14, 20, 0);
        sentence(NO_BAG, () -> noSuchBag(CourierBags::weightInByLayers));
    }

    /** An empty bag, one layer of one item and of more, five layers, and the weight limit. */
    private static void weightsFromNoneToTheLimit(BiFunction<CourierBags, Integer, Integer> weight) {
        CourierBags x = States.withBags(99, 99);
        is(0, weight.apply(x, 0));
        int[][] items = {{10, 20}, {4, 1}, {6, 3}, {10, 19}, {9, 20}, {1, 16}, {1, 20}};
        int due = 0;
        for (int[] item : items) {
            put(x, item[0], item[1], 0);
            due += item[1];
            is(due, weight.apply(x, 0));
            is(0, weight.apply(x, 1));
        }
        is("99 5", due + " " + x.layerCount(0));
        x.unpack(6);
        is(79, weight.apply(x, 0));
        x.deliver();
        is(0, weight.apply(x, 0));
    }

    private static void weightLeft() {
        promise(28);
        sentence("Returns the weight that is left in a bag: its limit less the weight of all items in it.",
                "Returns the weight.", () -> {
                    for (int limit : new int[] {20, 21, 99}) {
                        CourierBags x = States.withBags(limit, 1);
                        is(limit, x.weightLeft(0));
                        put(x, 1, 20, 0);
                        is(limit - 20, x.weightLeft(0));
                        is(1, x.weightLeft(1));
                        x.unpack(0);
                        is(limit, x.weightLeft(0));
                    }
                });
        firstAndLastBag(CourierBags::weightLeft, 85, 0, 1);
        sentence(NO_BAG, () -> noSuchBag(CourierBags::weightLeft));
    }

    private static void layerCount() {
        promise(29);
        sentence("Returns the number of layers of a bag.", "Returns the number of layers.", () -> {
            CourierBags x = States.withBags(99);
            for (int layers = 0; layers < 5; layers++) {
                is(layers, x.layerCount(0));
                put(x, 10, 1, 0);
            }
            is(5, x.layerCount(0));
            x.unpack(4);
            is(4, x.layerCount(0));
            x.deliver();
            is(0, x.layerCount(0));
        });
        firstAndLastBag(CourierBags::layerCount, 5, 1, 0);
        sentence(NO_BAG, () -> noSuchBag(CourierBags::layerCount));
    }

    private static void itemsInLayer() {
        promise(30);
        sentence("Returns the number of items in a layer.", "Returns the number of items.", () -> {
            CourierBags x = withItems(12);
            for (int id = 0; id < 10; id++) {
                x.pack(id, 0);
                is(id + 1, x.itemsInLayer(0, 0));
            }
            x.pack(10, 0);
            x.pack(11, 0);
            is("10 2", x.itemsInLayer(0, 0) + " " + x.itemsInLayer(0, 1));
            x.unpack(10);
            is("10 1", x.itemsInLayer(0, 0) + " " + x.itemsInLayer(0, 1));
        });
        firstAndLastLayer(CourierBags::itemsInLayer, 3, 1, 1, 1, 1, 2, 1);
        sentence(NO_LAYER, () -> noSuchLayer(CourierBags::itemsInLayer));
    }

    /**
     * The answers for the five layers of the first bag of the full object, for the one layer of its second bag, and for
     * the only item, of size and weight 1, in the last of three bags.
     */
    private static void firstAndLastLayer(LayerCall call, int... answers) {
        sentence("`bag`: the bag", () -> {
            is(answers[0], call.of(States.full(), States.HIGH_BAG, 0));
            is(answers[5], call.of(States.full(), States.HEAVY_BAG, 0));
            CourierBags x = States.withBags(9, 9, 9);
            put(x, 1, 1, 2);
            is(answers[6], call.of(x, 2, 0));
            throwing(INDEX, () -> call.of(x, 1, 0));
        });
        sentence("`layer`: the layer", () -> {
            for (int layer = 0; layer < 5; layer++) {
                is(answers[layer], call.of(States.full(), States.HIGH_BAG, layer));
            }
        });
    }

    private static void itemAt() {
        promise(31);
        sentence("Returns an item in a layer.", "Returns the id of the item.", () -> {
            CourierBags x = States.full();
            is("2 5 8 9", x.itemAt(0, 0, 0) + " " + x.itemAt(0, 1, 0) + " " + x.itemAt(0, 4, 0) + " " + x.itemAt(1, 0, 0));
        });
        firstAndLastLayer((x, bag, layer) -> x.itemAt(bag, layer, 0), 2, 5, 6, 7, 8, 9, 0);
        sentence("`position`: the position in the layer, from 0", () -> {
            CourierBags x = withItems(10);
            for (int id = 9; id >= 0; id--) {
                x.pack(id, 0);
            }
            for (int position = 0; position < 10; position++) {
                is(9 - position, x.itemAt(0, 0, position));
            }
            x.unpack(9);
            x.unpack(0);
            is("8 1", x.itemAt(0, 0, 0) + " " + x.itemAt(0, 0, 7));
            throwing(ELEMENT, () -> x.itemAt(0, 0, 8));
        });
        sentence(NO_LAYER, () -> {
            noSuchLayer((x, bag, layer) -> x.itemAt(bag, layer, 0));
            noSuchLayer((x, bag, layer) -> x.itemAt(bag, layer, -1));
        });
        sentence("Throws `NoSuchElementException` if there is no such position", () -> {
            for (int position : new int[] {LEAST, -1, 3, 4, MOST}) {
                refused(ELEMENT, States::full, x -> x.itemAt(0, 0, position));
            }
            for (int position : new int[] {LEAST, -1, 1, MOST}) {
                refused(ELEMENT, States::full, x -> x.itemAt(0, 4, position));
            }
            refused(ELEMENT, States::full, x -> x.itemAt(1, 0, 2));
        });
    }

    private static void sizeUsed() {
        promise(32);
        sentence("Returns the sum of the sizes in a layer.", () -> {
            CourierBags x = States.withBags(99);
            put(x, 2, 1, 0);
            is(2, x.sizeUsed(0, 0));
            put(x, 3, 1, 0);
            is(5, x.sizeUsed(0, 0));
            put(x, 6, 1, 0);
            is("5 6", x.sizeUsed(0, 0) + " " + x.sizeUsed(0, 1));
            x.unpack(2);
            x.unpack(0);
            is(3, x.sizeUsed(0, 0));
        });
        firstAndLastLayer(CourierBags::sizeUsed, 10, 10, 10, 10, 10, 10, 1);
        sentence("Returns the sum, 1 to 10.", () -> {
            CourierBags x = withItems(12);
            for (int id = 0; id < 10; id++) {
                x.pack(id, 0);
                is(id + 1, x.sizeUsed(0, 0));
            }
            x.pack(10, 0);
            is("10 1", x.sizeUsed(0, 0) + " " + x.sizeUsed(0, 1));
        });
        sentence(NO_LAYER, () -> noSuchLayer(CourierBags::sizeUsed));
    }

    private static void loadOf() {
        promise(33);
        sentence("Returns the load of a layer.", () -> {
            CourierBags x = States.withBags(99);
            int[] weights = {20, 19, 1, 2, 3};
            for (int weight : weights) {
                put(x, 10, weight, 0);
            }
            is("25 6 5 3 0", x.loadOf(0, 0) + " " + x.loadOf(0, 1) + " " + x.loadOf(0, 2) + " " + x.loadOf(0, 3) + " "
                    + x.loadOf(0, 4));
            x.unpack(4);
            is("22 0", x.loadOf(0, 0) + " " + x.loadOf(0, 3));
        });
        firstAndLastLayer(CourierBags::loadOf, 11, 10, 9, 8, 0, 0, 0);
        sentence("Returns the load, 0 for the top layer.", () -> {
            CourierBags x = States.withBags(99);
            put(x, 1, 20, 0);
            is(0, x.loadOf(0, 0));
            put(x, 9, 20, 0);
            is(0, x.loadOf(0, 0));
            put(x, 1, 1, 0);
            is("1 0", x.loadOf(0, 0) + " " + x.loadOf(0, 1));
            is(0, States.full().loadOf(0, 4));
        });
        sentence(NO_LAYER, () -> noSuchLayer(CourierBags::loadOf));
    }

    private static void bestLoad(int number, String quote, BiFunction<CourierBags, Integer, Integer> best) {
        promise(number);
        sentence(quote, () -> {
            CourierBags x = States.withBags(99);
            is(0, best.apply(x, 0));
            for (int count = 1; count <= 12; count++) {
                x.addItem(10, 8, 30, true);
                is(10 * count, best.apply(x, 0));
            }
            x.removeItem(11);
            x.addItem(10, 11, 30, true);
            is(120, best.apply(x, 0));
            x.removeItem(12);
            x.addItem(10, 12, 30, true);
            is(110, best.apply(x, 0));
            x.removeItem(0);
            x.addItem(1, 1, 1, false);
            is(111, best.apply(x, 0));
        });
        firstAndLastBag(best, 13, 0, 10);
        sentence("Returns the total size, 0 if no item fits.", () -> {
            CourierBags x = States.withBags(1, 20, 99);
            is("0 0 0", best.apply(x, 0) + " " + best.apply(x, 1) + " " + best.apply(x, 2));
            x.addItem(10, 20, 1, false);
            is("0 10 10", best.apply(x, 0) + " " + best.apply(x, 1) + " " + best.apply(x, 2));
            x.addItem(9, 2, 1, false);
            is("0 10 19", best.apply(x, 0) + " " + best.apply(x, 1) + " " + best.apply(x, 2));
            x.addItem(1, 1, 1, false);
            is("1 10 20", best.apply(x, 0) + " " + best.apply(x, 1) + " " + best.apply(x, 2));
            x.pack(0, 1);
            is("1 0 10", best.apply(x, 0) + " " + best.apply(x, 1) + " " + best.apply(x, 2));
            x.pack(2, 0);
            is("0 0 9", best.apply(x, 0) + " " + best.apply(x, 1) + " " + best.apply(x, 2));
            x.pack(1, 2);
            is("0 0 0", best.apply(x, 0) + " " + best.apply(x, 1) + " " + best.apply(x, 2));
        });
        sentence(NO_BAG, () -> noSuchBag(best));
    }

    private static void emptiestBag() {
        promise(36);
        sentence("Returns the bag with the most weight left, and the lowest number if it is equal.", "Returns the bag.",
                () -> {
                    is(0, States.withBags(1).emptiestBag());
                    is(0, States.withBags(9, 9, 9).emptiestBag());
                    is(1, States.withBags(9, 10, 10).emptiestBag());
                    is(2, States.withBags(98, 98, 99).emptiestBag());
                    is(0, States.withBags(99, 98, 99).emptiestBag());
                    CourierBags x = States.withBags(21, 20, 20);
                    x.addItem(1, 1, 1, false);
                    x.addItem(1, 1, 1, false);
                    x.pack(0, 0);
                    is(0, x.emptiestBag());
                    x.pack(1, 0);
                    is(1, x.emptiestBag());
                    x.unpack(1);
                    x.pack(1, 1);
                    is(0, x.emptiestBag());
                    CourierBags full = States.withBags(1, 1, 1);
                    for (int bag = 0; bag < 3; bag++) {
                        is(bag, full.emptiestBag());
                        put(full, 1, 1, bag);
                    }
                    is(0, full.emptiestBag());
                });
        sentence("Throws `NoSuchElementException` if there are no bags", () -> {
            refused(ELEMENT, States::empty, CourierBags::emptiestBag);
            CourierBags x = States.withBags(1);
            x.undo();
            throwing(ELEMENT, x::emptiestBag);
        });
    }

    private static void shareUsed() {
        promise(37);
        sentence("Returns the share of the weight limits that is used.", () -> {
            is(0.0, States.withBags(1).shareUsed());
            is(0.0, States.withBags(99, 99, 99).shareUsed());
            CourierBags x = States.withBags(20);
            put(x, 1, 20, 0);
            is(1.0, x.shareUsed());
            x.deliver();
            is(0.0, x.shareUsed());
        });
        sentence("Returns the weight of all packed items divided by the sum of the weight limits of all bags, both "
                + "converted to double.", () -> {
                    is(34.0 / 120.0, States.full().shareUsed());
                    CourierBags x = States.withBags(3, 99, 99);
                    x.addItem(1, 1, 1, false);
                    x.addItem(1, 20, 1, false);
                    is(0.0, x.shareUsed());
                    x.pack(0, 0);
                    is(1.0 / 201.0, x.shareUsed());
                    x.pack(1, 2);
                    is(21.0 / 201.0, x.shareUsed());
                });
        sentence("Throws `ArithmeticException` if there are no bags", () -> {
            refused(ARITHMETIC, States::empty, CourierBags::shareUsed);
            refused(ARITHMETIC, CourierBagsQuestionEdgesTest::itemsWithoutBags, CourierBags::shareUsed);
        });
    }

    private static CourierBags itemsWithoutBags() {
        CourierBags x = new CourierBags();
        x.addItem(1, 1, 1, false);
        return x;
    }

    /** That isConsistent answers false is tested by CourierBagsConsistencyTest: no call leads there. */
    private static void isConsistent() {
        promise(38);
        sentence("Checks that the weights of all bags agree by both ways, that no weight limit, layer size or load limit "
                + "is exceeded, and that no item lies above an item with an earlier stop.",
                "Returns whether all of this holds.", () -> {
                    is(true, States.empty().isConsistent());
                    is(true, States.withBags(1).isConsistent());
                    is(true, itemsWithoutBags().isConsistent());
                    CourierBags x = States.full();
                    is(true, x.isConsistent());
                    x.pack(11, 2);
                    is(true, x.isConsistent());
                    for (int delivery = 0; delivery < 6; delivery++) {
                        x.deliver();
                        is(true, x.isConsistent());
                    }
                });
    }
}
