import java.util.function.Function;
import java.util.regex.Matcher;
import java.util.regex.Pattern;

/** Each sentence of the document's "Terms", at its boundaries. */
public final class CourierBagsTermsTest extends DocumentTest {
    private static final String COMMAND = "(bag \\d\\d?|item \\d\\d? \\d\\d? \\d\\d?!?|drop \\d\\d?|pack \\d\\d? \\d"
            + "|unpack \\d\\d?|fill \\d|deliver)";
    private static final Pattern PROGRAM = Pattern.compile(COMMAND + "(;" + COMMAND + ")*");

    public static void main(String[] args) {
        lifetime();
        items();
        bags();
        packing();
        reasons();
        orderOfReasons();
        delivery();
        furtherRules();
        bestLoad();
        buffer();
        grammar();
        commands();
        undo();
        exceptions();
        constants();
        finish();
    }

    // ---- shorthands

    private static int plain(CourierBags x, int size, int weight, int stop) {
        return x.addItem(size, weight, stop, false);
    }

    /** Adds items of the size and the weight 1 and the stop 5. */
    private static CourierBags withItems(CourierBags x, int count) {
        for (int added = 0; added < count; added++) {
            plain(x, 1, 1, 5);
        }
        return x;
    }

    /** Adds an item and packs it, and returns its layer. */
    private static int put(CourierBags x, int size, int weight, int stop) {
        return x.pack(plain(x, size, weight, stop), 0);
    }

    private static int putFragile(CourierBags x, int size, int weight, int stop) {
        return x.pack(x.addItem(size, weight, stop, true), 0);
    }

    /** Adds an item; its packing is refused for this reason and leaves the layers alone, and canPack says so before. */
    private static void putRefused(int reason, CourierBags x, int size, int weight, int stop) {
        int item = plain(x, size, weight, stop);
        String before = States.layers(x);
        is(false, x.canPack(item, 0));
        throwing(REFUSED, () -> x.pack(item, 0));
        is(reason + " " + item, States.refusal(x));
        is(before, States.layers(x));
        is(false, x.isPacked(item));
        x.removeItem(item);
    }

    // ---- an object's calls

    private static void lifetime() {
        paragraph("An object is used for at most 512 calls");
        sentence("An object is used for at most 512 calls after it has been made; what later calls answer is free.",
                () -> {
                    CourierBags x = new CourierBags();
                    for (int id = 0; id < 256; id++) {
                        is(id, plain(x, 1, 1, 1));
                        is(0, x.removeItem(id));
                    }
                    CourierBags y = new CourierBags();
                    for (int call = 1; call < 512; call++) {
                        is(0, y.itemCount());
                    }
                    is(0, y.addBag(99));
                });
    }

    // ---- items

    private static void items() {
        paragraph("Items.");
        sentence("At most 12 items exist at a time.", () -> {
            CourierBags x = withItems(new CourierBags(), 11);
            is(11, x.itemCount());
            is(11, plain(x, 1, 1, 1));
            is(12, x.itemCount());
            throwing(STATE, () -> plain(x, 1, 1, 1));
            is(12, x.itemCount());
            is(11, x.removeItem(0));
            is(12, plain(x, 1, 1, 1));
            throwing(STATE, () -> plain(x, 1, 1, 1));
        });
        sentence("Each has a size from 1 to 10, a weight from 1 to 20, and a stop from 1 to 30, and is fragile or not.",
                () -> {
                    for (int size = -1; size <= 12; size++) {
                        for (int weight : new int[] {0, 1, 20, 21}) {
                            for (int stop : new int[] {0, 1, 30, 31}) {
                                takesInWithin(size, weight, stop);
                            }
                        }
                    }
                    for (int far : new int[] {LEAST, MOST}) {
                        takesInWithin(far, 1, 1);
                        takesInWithin(1, far, 1);
                        takesInWithin(1, 1, far);
                    }
                });
        sentence("Items have ids: the first one that is added has the id 0, and every further one has the id of the "
                + "item added before it plus 1.", () -> {
                    CourierBags x = States.withBags(99);
                    is(0, plain(x, 1, 1, 1));
                    is(1, plain(x, 1, 1, 1));
                    x.removeItem(1);
                    is(2, plain(x, 1, 1, 1));
                    throwing(ARGUMENT, () -> plain(x, 11, 1, 1));
                    x.pack(2, 0);
                    x.deliver();
                    is(3, plain(x, 1, 1, 1));
                    x.removeItem(3);
                    x.removeItem(0);
                    is(0, x.itemCount());
                    is(4, plain(x, 1, 1, 1));
                    withItems(x, 11);
                    throwing(STATE, () -> plain(x, 1, 1, 1));
                    x.removeItem(15);
                    is(16, plain(x, 1, 1, 1));
                    States.run(x, "drop 4;item 1 1 1");
                    is(true, x.exists(17));
                    for (int id = 18; id <= 120; id++) {
                        x.removeItem(id - 1);
                        is(id, plain(x, 1, 1, 1));
                    }
                });
        sentence("An item is in the depot or packed in a bag.", () -> {
            CourierBags x = withItems(States.withBags(99), 2);
            is("2 2 false", x.itemCount() + " " + x.depotCount() + " " + x.isPacked(0));
            x.pack(0, 0);
            is("2 1 true", x.itemCount() + " " + x.depotCount() + " " + x.isPacked(0));
            x.pack(1, 0);
            is("2 0", x.itemCount() + " " + x.depotCount());
            x.unpack(0);
            is("2 1 false", x.itemCount() + " " + x.depotCount() + " " + x.isPacked(0));
        });
    }

    private static void takesInWithin(int size, int weight, int stop) {
        boolean isWithin = size >= 1 && size <= 10 && weight >= 1 && weight <= 20 && stop >= 1 && stop <= 30;
        for (boolean fragile : new boolean[] {false, true}) {
            CourierBags x = new CourierBags();
            if (isWithin) {
                is(0, x.addItem(size, weight, stop, fragile));
                is(size + " " + weight + " " + stop + (fragile ? "!" : ""), States.item(x, 0));
            } else {
                throwing(ARGUMENT, () -> x.addItem(size, weight, stop, fragile));
                is(0, x.itemCount());
            }
        }
    }

    // ---- bags

    private static void bags() {
        paragraph("Bags.");
        sentence("At most 3 bags exist, numbered from 0.", () -> {
            CourierBags x = new CourierBags();
            for (int bag = 0; bag < 3; bag++) {
                is(bag, x.bagCount());
                is(bag, x.addBag(10 + bag));
            }
            throwing(STATE, () -> x.addBag(13));
            is("3 10 11 12", x.bagCount() + " " + x.limitOf(0) + " " + x.limitOf(1) + " " + x.limitOf(2));
            throwing(INDEX, () -> x.limitOf(-1));
            throwing(INDEX, () -> x.limitOf(3));
        });
        sentence("Each has a weight limit from 1 to 99.", () -> {
            for (int limit : new int[] {LEAST, -1, 0, 100, 101, MOST}) {
                refused(ARGUMENT, States::empty, x -> x.addBag(limit));
            }
            for (int limit : new int[] {1, 2, 98, 99}) {
                is(limit, States.withBags(limit).limitOf(0));
            }
        });
        sentence("A bag contains at most 5 layers, numbered from 0 at the bottom, each with at least one item.", () -> {
            CourierBags x = States.withBags(99);
            is(0, x.layerCount(0));
            for (int layer = 0; layer < 5; layer++) {
                is(layer, put(x, 10, 1, 5));
                is(layer + 1, x.layerCount(0));
                is(layer, x.itemAt(0, layer, 0));
            }
            putRefused(CourierBags.NO_SPACE, x, 1, 1, 5);
            for (int layer = 4; layer >= 0; layer--) {
                is(1, x.itemsInLayer(0, layer));
                is(layer, x.unpack(layer));
            }
        });
        sentence("The sizes of the items in a layer add up to at most 10.", () -> {
            CourierBags x = States.withBags(99);
            is(0, put(x, 1, 1, 5));
            is(0, put(x, 9, 1, 5));
            is(10, x.sizeUsed(0, 0));
            is(1, put(x, 1, 1, 5));
            is(2, put(x, 10, 1, 5));
            is(10, x.sizeUsed(0, 2));
            is(3, put(x, 9, 1, 5));
            is(4, put(x, 2, 1, 5));
            is(4, put(x, 8, 1, 5));
            is(10, x.sizeUsed(0, 4));
            CourierBags ones = withItems(States.withBags(99), 11);
            for (int id = 0; id < 10; id++) {
                is(0, ones.pack(id, 0));
            }
            is(1, ones.pack(10, 0));
            is("10 10 1", ones.itemsInLayer(0, 0) + " " + ones.sizeUsed(0, 0) + " " + ones.sizeUsed(0, 1));
        });
        sentence("The items of a layer are ordered as they were packed.", () -> {
            CourierBags x = withItems(States.withBags(99), 10);
            for (int id = 9; id >= 0; id--) {
                x.pack(id, 0);
            }
            is("[9 8 7 6 5 4 3 2 1 0]", States.label(x, 0));
            x.unpack(9);
            x.pack(9, 0);
            is("[8 7 6 5 4 3 2 1 0 9]", States.label(x, 0));
            x.unpack(9);
            x.unpack(4);
            x.pack(9, 0);
            x.pack(4, 0);
            is("[8 7 6 5 3 2 1 0 9 4]", States.label(x, 0));
        });
    }

    // ---- packing

    private static void packing() {
        paragraph("Packing.");
        sentence("it is put into the top layer, behind the items there, if the bag has a layer and the size of the item "
                + "fits into the top layer", () -> {
                    CourierBags x = States.withBags(99);
                    is(0, put(x, 4, 1, 5));
                    is(0, put(x, 5, 1, 5));
                    is(0, put(x, 1, 1, 5));
                    is("[0 1 2]", States.label(x, 0));
                    is(1, put(x, 10, 1, 5));
                    is(2, put(x, 9, 1, 5));
                    is(2, put(x, 1, 1, 5));
                    is("[4 5][3][0 1 2]", States.label(x, 0));
                });
        sentence("otherwise it becomes a new top layer.", () -> {
            CourierBags x = States.withBags(99, 99);
            is(0, put(x, 1, 1, 5));
            is(1, put(x, 10, 1, 5));
            is(2, put(x, 1, 1, 5));
            is(3, put(x, 10, 1, 5));
            is(4, put(x, 1, 1, 5));
            is("[4][3][2][1][0]", States.label(x, 0));
            is(0, x.pack(plain(x, 10, 1, 5), 1));
        });
        sentence("The load of a layer is the weight of all items in the layers above it.", () -> {
            CourierBags x = States.withBags(99);
            put(x, 10, 20, 5);
            is(0, x.loadOf(0, 0));
            put(x, 4, 1, 5);
            put(x, 6, 2, 5);
            is("3 0", x.loadOf(0, 0) + " " + x.loadOf(0, 1));
            put(x, 10, 20, 5);
            is("23 20 0", x.loadOf(0, 0) + " " + x.loadOf(0, 1) + " " + x.loadOf(0, 2));
            x.unpack(3);
            is("3 0", x.loadOf(0, 0) + " " + x.loadOf(0, 1));
        });
    }

    private static void reasons() {
        sentence("the weight of all items in the bag would be greater than the weight limit (TOO_HEAVY)", () -> {
            CourierBags x = States.withBags(20);
            is(0, put(x, 1, 12, 5));
            putRefused(CourierBags.TOO_HEAVY, x, 1, 9, 5);
            is(0, put(x, 1, 8, 5));
            is(0, x.weightLeft(0));
            putRefused(CourierBags.TOO_HEAVY, x, 1, 1, 5);
            CourierBags least = States.withBags(1);
            putRefused(CourierBags.TOO_HEAVY, least, 1, 2, 5);
            is(0, put(least, 1, 1, 5));
            CourierBags most = States.withBags(99);
            for (int count = 0; count < 4; count++) {
                is(0, put(most, 1, 20, 5));
            }
            putRefused(CourierBags.TOO_HEAVY, most, 1, 20, 5);
            is(0, put(most, 1, 19, 5));
        });
        sentence("a new layer would be needed, but the bag has 5 layers (NO_SPACE)", () -> {
            CourierBags x = States.withBags(99);
            for (int layer = 0; layer < 4; layer++) {
                is(layer, put(x, 10, 1, 5));
            }
            is(4, put(x, 8, 1, 5));
            putRefused(CourierBags.NO_SPACE, x, 3, 1, 5);
            is(4, put(x, 2, 1, 5));
            putRefused(CourierBags.NO_SPACE, x, 1, 1, 5);
        });
        sentence("an item in a layer below that into which the item would be put has an earlier stop than the item "
                + "(WRONG_ORDER)", () -> {
                    CourierBags x = States.withBags(99);
                    put(x, 5, 1, 29);
                    is(0, put(x, 3, 1, 30));
                    is(0, put(x, 1, 1, 28));
                    putRefused(CourierBags.WRONG_ORDER, x, 2, 1, 29);
                    is(1, put(x, 2, 1, 28));
                    putRefused(CourierBags.WRONG_ORDER, x, 1, 1, 30);
                    is(1, put(x, 7, 1, 1));
                    putRefused(CourierBags.WRONG_ORDER, x, 10, 1, 2);
                    is(2, put(x, 10, 1, 1));
                    CourierBags deep = States.withBags(99);
                    put(deep, 10, 1, 9);
                    put(deep, 10, 1, 8);
                    put(deep, 10, 1, 8);
                    put(deep, 10, 1, 8);
                    putRefused(CourierBags.WRONG_ORDER, deep, 10, 1, 9);
                    is(4, put(deep, 10, 1, 8));
                });
        sentence("a layer that contains a fragile item would carry a load of more than 8 (TOO_FRAGILE)", () -> {
            CourierBags x = States.withBags(99);
            is(0, putFragile(x, 9, 20, 5));
            is(0, put(x, 1, 20, 5));
            putRefused(CourierBags.TOO_FRAGILE, x, 10, 9, 5);
            is(1, put(x, 4, 7, 5));
            putRefused(CourierBags.TOO_FRAGILE, x, 6, 2, 5);
            is(1, put(x, 6, 1, 5));
            putRefused(CourierBags.TOO_FRAGILE, x, 10, 1, 5);
            CourierBags deep = States.withBags(99);
            put(deep, 10, 20, 5);
            putFragile(deep, 10, 20, 5);
            put(deep, 10, 3, 5);
            putFragile(deep, 10, 4, 5);
            putRefused(CourierBags.TOO_FRAGILE, deep, 10, 2, 5);
            is(4, putFragile(deep, 10, 1, 5));
            CourierBags late = States.withBags(99);
            put(late, 5, 1, 5);
            is(0, putFragile(late, 5, 20, 5));
            putRefused(CourierBags.TOO_FRAGILE, late, 1, 9, 5);
            is(1, putFragile(late, 1, 8, 5));
        });
    }

    private static void orderOfReasons() {
        sentence("Packing is refused for the first of the following reasons that applies", () -> {
            for (int others = 1; others < 16; others++) {
                firstReason((others & 1) != 0, (others & 2) != 0, (others & 4) != 0, (others & 8) != 0);
            }
        });
    }

    /** A bag in which these reasons, and no others, stand against an item of size 10, weight 20 and stop 9. */
    private static void firstReason(boolean heavy, boolean high, boolean late, boolean fragile) {
        int layers = high ? 5 : 4;
        CourierBags x = States.withBags(heavy ? 19 + layers : 20 + layers);
        for (int layer = 0; layer < layers; layer++) {
            x.pack(x.addItem(10, 1, late ? 8 : 9, fragile), 0);
        }
        int want = heavy ? CourierBags.TOO_HEAVY
                : high ? CourierBags.NO_SPACE : late ? CourierBags.WRONG_ORDER : CourierBags.TOO_FRAGILE;
        putRefused(want, x, 10, 20, 9);
    }

    // ---- delivery

    private static void delivery() {
        paragraph("Delivery.");
        sentence("The next stop is the lowest stop of all packed items.", () -> {
            CourierBags x = States.withBags(99, 99, 99);
            plain(x, 1, 1, 30);
            plain(x, 1, 1, 29);
            plain(x, 1, 1, 2);
            plain(x, 1, 1, 1);
            throwing(ELEMENT, x::nextStop);
            x.pack(0, 0);
            is(30, x.nextStop());
            x.pack(1, 2);
            is(29, x.nextStop());
            x.pack(2, 1);
            is(2, x.nextStop());
            x.pack(3, 0);
            is(1, x.nextStop());
            x.unpack(3);
            is(2, x.nextStop());
        });
        sentence("When the next stop is delivered, all packed items with this stop leave their bags and do not exist "
                + "any more.", () -> {
                    CourierBags x = States.withBags(99, 99, 99);
                    for (int id = 0; id < 12; id++) {
                        plain(x, 1, 1, id % 4 == 3 ? 2 : 1);
                    }
                    for (int id = 0; id < 11; id++) {
                        x.pack(id, id % 3);
                    }
                    is(9, x.deliver());
                    is("[3] [7] ", States.label(x, 0) + " " + States.label(x, 1) + " " + States.label(x, 2));
                    is("3 1", x.itemCount() + " " + x.depotCount());
                    for (int id = 0; id < 12; id++) {
                        is(id % 4 == 3, x.exists(id));
                    }
                    is(2, x.deliver());
                    is(true, x.exists(11));
                    throwing(STATE, x::deliver);
                });
        sentence("Layers without items vanish; the layers above them move down.", () -> {
            CourierBags x = States.withBags(99);
            put(x, 10, 1, 9);
            put(x, 9, 1, 9);
            put(x, 1, 1, 2);
            put(x, 10, 1, 2);
            put(x, 10, 1, 1);
            put(x, 10, 1, 1);
            is(5, x.layerCount(0));
            is(2, x.deliver());
            is("[3][1 2][0]", States.label(x, 0));
            is(2, x.deliver());
            is("[1][0]", States.label(x, 0));
            is(2, x.deliver());
            is(0, x.layerCount(0));
            is(0, put(x, 1, 1, 30));
        });
    }

    // ---- further rules

    private static void furtherRules() {
        paragraph("Further rules.");
        sentence("Packed items count for the limit of 12 items.", () -> {
            CourierBags x = withItems(States.withBags(99, 99), 12);
            for (int id = 0; id < 12; id++) {
                x.pack(id, id % 2);
                throwing(STATE, () -> plain(x, 1, 1, 1));
            }
            is("12 0", x.itemCount() + " " + x.depotCount());
            is(12, x.deliver());
            is(12, plain(x, 1, 1, 1));
        });
        sentence("If the size of an item fits into the top layer, no new layer is tried, also if the packing is refused "
                + "for another reason.", () -> {
                    CourierBags x = States.withBags(30);
                    put(x, 10, 10, 5);
                    put(x, 9, 10, 5);
                    putRefused(CourierBags.TOO_HEAVY, x, 1, 11, 5);
                    putRefused(CourierBags.WRONG_ORDER, x, 1, 1, 6);
                    is("[1][0]", States.label(x, 0));
                    CourierBags y = States.withBags(99);
                    for (int layer = 0; layer < 4; layer++) {
                        put(y, 10, 1, 5);
                    }
                    put(y, 9, 1, 5);
                    putRefused(CourierBags.WRONG_ORDER, y, 1, 1, 6);
                    putRefused(CourierBags.NO_SPACE, y, 2, 1, 6);
                    is(4, put(y, 1, 1, 5));
                });
        sentence("Layers are never joined.", () -> {
            CourierBags x = States.withBags(99);
            put(x, 9, 1, 5);
            put(x, 2, 1, 5);
            is(1, put(x, 1, 1, 5));
            is(2, x.unpack(1));
            is("[2][0]", States.label(x, 0));
            is("9 1", x.sizeUsed(0, 0) + " " + x.sizeUsed(0, 1));
            is(1, put(x, 1, 1, 4));
            is(1, x.deliver());
            is("[2][0]", States.label(x, 0));
            is(1, x.autoPack(0));
            is("[2 1][0]", States.label(x, 0));
        });
        sentence("Each item of the top layer can be unpacked.", () -> {
            for (int position = 0; position < 10; position++) {
                CourierBags x = withItems(States.withBags(99), 10);
                put(x, 10, 1, 5);
                for (int id = 0; id < 10; id++) {
                    is(1, x.pack(id, 0));
                }
                is(2, x.unpack(position));
                is("[" + "0 1 2 3 4 5 6 7 8 9 ".replace(position + " ", "").trim() + "][10]", States.label(x, 0));
                throwing(STATE, () -> x.unpack(10));
            }
        });
    }

    // ---- best load

    private static void bestLoad() {
        paragraph("Best load.");
        sentence("The best load of a bag is the greatest total size of a set of items in the depot whose total weight "
                + "is not greater than the weight that is left in the bag.", () -> {
                    for (int limit = 1; limit <= 22; limit++) {
                        CourierBags x = States.withBags(limit);
                        bothBest(x, 0);
                        plain(x, 10, 11, 1);
                        plain(x, 9, 6, 1);
                        plain(x, 8, 5, 1);
                        bothBest(x, limit < 5 ? 0 : limit < 6 ? 8 : limit < 11 ? 9 : limit < 16 ? 17
                                : limit < 17 ? 18 : limit < 22 ? 19 : 27);
                    }
                    CourierBags x = States.withBags(11, 99);
                    plain(x, 1, 6, 5);
                    plain(x, 10, 6, 5);
                    plain(x, 10, 5, 5);
                    bothBest(x, 20);
                    x.pack(0, 1);
                    bothBest(x, 20);
                    x.unpack(0);
                    x.pack(0, 0);
                    bothBest(x, 10);
                    x.pack(2, 0);
                    bothBest(x, 0);
                });
        sentence("Layers, stops and fragility do not matter.", () -> {
            CourierBags x = States.withBags(99);
            putFragile(x, 10, 1, 1);
            for (int layer = 1; layer < 5; layer++) {
                put(x, 10, 2, 1);
            }
            for (int id = 5; id < 12; id++) {
                x.addItem(10, 12, 24 + id - 5, id % 2 == 0);
                is(false, x.canPack(id, 0));
            }
            is(90, x.weightLeft(0));
            bothBest(x, 70);
            is(0, x.autoPack(0));
        });
    }

    private static void bothBest(CourierBags x, int want) {
        is(want, x.bestLoad(0));
        is(want, x.bestLoadByTable(0));
    }

    // ---- commands

    private static void buffer() {
        paragraph("Commands.");
        sentence("Characters are collected in a buffer of at most 60 characters.", () -> {
            CourierBags x = new CourierBags();
            String text = "bag 10;bag 20;bag 30;item 10 20 30!;item 1 2 3;fill 2;fill 1";
            is(60, text.length());
            for (int index = 0; index < 60; index++) {
                is(index + 1, x.type(text.charAt(index)));
            }
            throwing(STATE, () -> x.type(';'));
            throwing(STATE, () -> x.type('1'));
            is(7, x.execute());
            is("0:10 20 30! in 2/0; 1:1 2 3 in 2/1; 2 0", States.items(x));
            is(1, x.type('b'));
            throwing(ARGUMENT, x::execute);
            CourierBags less = new CourierBags();
            States.write(less, text.substring(0, 59));
            is(60, less.type('1'));
            is(7, less.execute());
        });
        sentence("The grammar of a program is, with terminals in quotes, with braces for zero or more repetitions and "
                + "brackets for an optional part:", () -> {
                    CourierBags x = States.withBags(9);
                    is(1, States.run(x, "item 1 1 1"));
                    is(1, States.run(x, "item 1 1 1!"));
                    is("false true", x.isFragile(0) + " " + x.isFragile(1));
                });
    }

    private static void grammar() {
        paragraph("program = ", "command = ", "| \"unpack \"", "number = ");
        sentence("program = command { \";\" command }", () -> {
            is(1, States.run(new CourierBags(), "bag 1"));
            is(2, States.run(new CourierBags(), "bag 1;bag 2"));
            is(8, States.run(States.withBags(9), "fill 0;fill 0;fill 0;fill 0;fill 0;fill 0;fill 0;fill 0"));
            isMalformed("", 0);
            isMalformed(";", 0);
            isMalformed(";bag 1", 0);
            isMalformed("bag 1;", 6);
            isMalformed("bag 1;;bag 1", 6);
            isMalformed("bag 1,bag 1", 5);
            isMalformed("bag 1; bag 1", 6);
            isMalformed("bag 1 ;bag 1", 5);
        });
        sentence("command = \"bag \" number | \"item \" number \" \" number \" \" number [ \"!\" ] | \"drop \" number | "
                + "\"pack \" number \" \" digit", () -> {
                    asTheGrammarSays("bag 1;bag 12");
                    asTheGrammarSays("item 1 2 3;item 10 20 30!");
                    asTheGrammarSays("drop 1;drop 12");
                    asTheGrammarSays("pack 1 2;pack 12 3");
                });
        sentence("| \"unpack \" number | \"fill \" digit | \"deliver\"", () -> {
            asTheGrammarSays("unpack 1;unpack 12");
            asTheGrammarSays("fill 1;fill 2");
            asTheGrammarSays("deliver;deliver");
        });
        sentence("number = one or two digits", () -> {
            for (String number : new String[] {"1", "9", "01", "09", "10", "99"}) {
                CourierBags x = new CourierBags();
                is(1, States.run(x, "bag " + number));
                is(Integer.parseInt(number), x.limitOf(0));
            }
            isMalformed("bag ", 4);
            isMalformed("bag 001", 6);
            isMalformed("bag 100", 6);
            isMalformed("bag +1", 4);
            isMalformed("bag /", 4);
            isMalformed("bag :", 4);
            isMalformed("bag 1/", 5);
            isMalformed("bag 1:", 5);
            failsAt("bag 0", 0);
            failsAt("bag 00", 0);
        });
    }

    private static void commands() {
        paragraph("The commands call ");
        sentence("The commands call addBag, addItem with the size, the weight and the stop, where \"!\" means fragile, "
                + "removeItem, pack with the item and the bag, unpack, autoPack, and deliver.", () -> {
                    CourierBags x = new CourierBags();
                    States.run(x, "bag 1;bag 99;item 1 20 30;item 10 1 1!");
                    is("1 99", x.limitOf(0) + " " + x.limitOf(1));
                    is("0:1 20 30; 1:10 1 1!; 2 2", States.items(x));
                    States.run(x, "pack 0 1;pack 1 0");
                    is("0:1 20 30 in 1/0; 1:10 1 1! in 0/0; 2 0", States.items(x));
                    States.run(x, "unpack 1;drop 1");
                    is("0:1 20 30 in 1/0; 1 0", States.items(x));
                    States.run(x, "item 1 1 1;fill 0;deliver");
                    is("0:1 20 30 in 1/0; 1 0", States.items(x));
                    is("1 1", x.deliveredCount() + " " + x.deliveredWeight());
                    failsAt("item 1 1 1;item 0 1 1", 1);
                    failsAt("item 1 1 1;item 11 1 1", 1);
                    failsAt("item 1 1 1;item 1 0 1", 1);
                    failsAt("item 1 1 1;item 1 21 1", 1);
                    failsAt("item 1 1 1;item 1 1 0", 1);
                    failsAt("item 1 1 1;item 1 1 31", 1);
                });
        sentence("The error position of a malformed program is the index of the first character that cannot continue "
                + "any program, or the length of the text if it ends too early.", () -> {
                    String full = "item 10 20 30!;item 10 20 30!;item 10 20 30!;item 10 20 30!;";
                    isMalformed(full, 60);
                    isMalformed(full.substring(0, 59) + " ", 59);
                    isMalformed("~" + full.substring(1), 0);
                    String[] texts = {"bag 12", "item 10 20 30!", "drop 12", "pack 12 3", "unpack 12", "fill 3", "deliver",
                        "bag 1;item 1 2 3;drop 4;pack 5 6;unpack 7;fill 8;deliver"};
                    for (String text : texts) {
                        asTheGrammarSays(text);
                    }
                });
    }

    /** The text itself, its beginnings, and all texts that are one character away from it. */
    private static void asTheGrammarSays(String text) {
        for (int index = 0; index <= text.length(); index++) {
            String before = text.substring(0, index);
            String behind = text.substring(index);
            accordsToPattern(before);
            for (char character : " !;109abdefiklmnprtuv/:~B".toCharArray()) {
                accordsToPattern(before + character + behind);
                if (!behind.isEmpty()) {
                    accordsToPattern(before + character + behind.substring(1));
                    accordsToPattern(before + behind.substring(1));
                }
            }
        }
    }

    private static void accordsToPattern(String text) {
        if (text.length() > 60) {
            return;
        }
        if (PROGRAM.matcher(text).matches()) {
            CourierBags x = new CourierBags();
            States.outcome(() -> States.run(x, text));
            throwing(ELEMENT, x::errorPosition);
        } else {
            isMalformed(text, firstImpossible(text));
        }
    }

    private static int firstImpossible(String text) {
        for (int length = 1; length <= text.length(); length++) {
            Matcher matcher = PROGRAM.matcher(text.substring(0, length));
            if (!matcher.matches() && !matcher.hitEnd()) {
                return length - 1;
            }
        }
        return text.length();
    }

    private static void isMalformed(String text, int position) {
        CourierBags x = new CourierBags();
        runFails(ARGUMENT, x, text);
        is(text + " " + position, text + " " + States.outcome(x::errorPosition));
    }

    private static void failsAt(String text, int command) {
        CourierBags x = new CourierBags();
        runFails(STATE, x, text);
        is(text + " " + command, text + " " + States.outcome(x::failedCommand));
    }

    // ---- undo

    private static void undo() {
        paragraph("Undo.");
        sentence("The successful calls of addBag, addItem, removeItem, pack, unpack, autoPack, deliver and execute are "
                + "modifications.", CourierBagsTermsTest::modifications);
        sentence("The last 8 of them can be undone.", () -> {
            for (int made = 0; made <= 12; made++) {
                CourierBags x = withItems(new CourierBags(), made);
                int undoable = Math.min(made, 8);
                for (int left = undoable - 1; left >= 0; left--) {
                    is(left, x.undo());
                }
                is(made - undoable, x.itemCount());
                throwing(STATE, x::undo);
                is(made - undoable, x.itemCount());
                is(made - undoable, plain(x, 1, 1, 1));
                is(0, x.undo());
            }
            CourierBags x = withItems(new CourierBags(), 9);
            is(7, x.undo());
            is(6, x.undo());
            withItems(x, 2);
            is(7, x.undo());
            withItems(x, 2);
            for (int left = 7; left >= 0; left--) {
                is(left, x.undo());
            }
            is(2, x.itemCount());
            throwing(STATE, x::undo);
        });
        sentence("The buffer, the error position, the failed command, the last refusal and the label are not affected "
                + "by undo and restore", () -> {
                    String[] kept = {"refusal", "label", "error position", "failed command"};
                    for (int steps = 1; steps <= 9; steps++) {
                        int undone = steps;
                        isKept(kept, x -> repeat(x::undo, undone));
                    }
                    isKept(kept, CourierBags::restore);
                    CourierBags x = States.full();
                    x.undo();
                    is(8, x.type('!'));
                    x.restore();
                    is(9, x.type('!'));
                    throwing(ARGUMENT, x::execute);
                    is(7, x.errorPosition());
                    CourierBags y = States.full();
                    y.undo();
                    is(1, y.execute());
                    is(false, y.exists(13));
                    CourierBags z = States.full();
                    z.restore();
                    throwing(STATE, z::execute);
                    is(0, z.failedCommand());
                });
        sentence("everything else is, including the id that is given next.", () -> {
            CourierBags x = States.withBags(50);
            x.addItem(1, 1, 9, false);
            x.addItem(2, 2, 2, true);
            x.pack(1, 0);
            String before = States.state(x);
            x.save();
            x.deliver();
            x.pack(0, 0);
            x.addBag(4);
            is(2, plain(x, 1, 1, 1));
            is(3, plain(x, 1, 1, 1));
            x.removeItem(2);
            String after = States.state(x);
            for (int step = 0; step < 6; step++) {
                x.undo();
            }
            is(before, States.state(x));
            is(2, plain(x, 1, 1, 1));
            is(1, x.addBag(9));
            x.restore();
            is(before, States.state(x));
            is(2, plain(x, 1, 1, 1));
            is(1, x.addBag(4));
            is(false, before.equals(after));
        });
    }

    private static int repeat(Runnable call, int times) {
        for (int time = 0; time < times; time++) {
            States.outcome(() -> {
                call.run();
                return 0;
            });
        }
        return times;
    }

    private static void isKept(String[] aspects, Function<CourierBags, ?> call) {
        for (String aspect : aspects) {
            String before = States.aspects(States::full).get(aspect);
            is(before, States.aspects(() -> {
                CourierBags x = States.full();
                call.apply(x);
                return x;
            }).get(aspect));
        }
    }

    /** One step of undo takes back each of these, and calls that fail or only ask are no steps. */
    private static void modifications() {
        String[] calls = {"addBag", "addItem", "removeItem", "pack", "unpack", "autoPack", "autoPack of nothing", "deliver",
            "execute", "execute of nothing"};
        for (String call : calls) {
            CourierBags x = States.withBags(99, 1);
            put(x, 1, 1, 5);
            plain(x, 1, 2, 5);
            String before = States.state(x);
            modify(x, call);
            is(call + " 5", call + " " + x.undo());
            is(call + before, call + States.state(x));
        }
        CourierBags x = withItems(States.withBags(5), 1);
        plain(x, 1, 6, 1);
        x.pack(0, 0);
        throwing(ARGUMENT, () -> x.addBag(0));
        throwing(ARGUMENT, () -> plain(x, 0, 1, 1));
        throwing(STATE, () -> x.removeItem(0));
        throwing(REFUSED, () -> x.pack(1, 0));
        throwing(STATE, () -> x.unpack(1));
        throwing(INDEX, () -> x.autoPack(1));
        throwing(ARGUMENT, x::execute);
        runFails(STATE, x, "bag 1;bag 0");
        x.canPack(1, 0);
        x.writeLabel(0);
        x.type('b');
        x.save();
        is(3, x.undo());
        throwing(STATE, x::deliver);
        is(2, x.undo());
    }

    private static void modify(CourierBags x, String call) {
        switch (call) {
            case "addBag" -> x.addBag(1);
            case "addItem" -> x.addItem(10, 20, 30, true);
            case "removeItem" -> x.removeItem(1);
            case "pack" -> x.pack(1, 0);
            case "unpack" -> x.unpack(0);
            case "autoPack" -> is(1, x.autoPack(0));
            case "autoPack of nothing" -> is(0, x.autoPack(1));
            case "deliver" -> is(1, x.deliver());
            case "execute" -> is(4, States.run(x, "unpack 0;fill 1;deliver;bag 7"));
            default -> is(2, States.run(x, "unpack 0;pack 0 0"));
        }
    }

    // ---- exceptions

    private static void exceptions() {
        paragraph("Exceptions.");
        sentence("A method that throws an exception changes nothing, except that execute empties the buffer, and that a "
                + "refused packing is stored as the last refusal.", CourierBagsTermsTest::whatThrowsChangesNothing);
        sentence("If several exceptions apply, the one that is documented first is thrown.", () -> {
            refused(ARGUMENT, States::full, x -> x.addBag(0));
            refused(ARGUMENT, States::full, x -> x.addBag(100));
            refused(ARGUMENT, States::full, x -> plain(x, 0, 1, 1));
            refused(ARGUMENT, States::full, x -> plain(x, 1, 21, 1));
            refused(ARGUMENT, States::full, x -> plain(x, 1, 1, 31));
            refused(ELEMENT, States::full, x -> x.pack(1, 3));
            refused(ELEMENT, States::empty, x -> x.pack(0, 0));
            refused(INDEX, States::full, x -> x.pack(2, 3));
            refused(INDEX, States::full, x -> x.pack(12, -1));
            refused(STATE, States::full, x -> x.pack(2, 1));
            refused(STATE, States::full, x -> x.pack(9, 1));
            refused(ELEMENT, States::full, x -> x.canPack(1, 3));
            refused(ELEMENT, States::empty, x -> x.canPack(0, 0));
            refused(INDEX, States::full, x -> x.itemAt(3, 5, 9));
            refused(INDEX, States::full, x -> x.itemAt(0, 5, 9));
            refused(ELEMENT, States::full, x -> x.itemAt(0, 0, 9));
            CourierBags x = new CourierBags();
            States.write(x, "bag 0;bag 1;bag 1;bag 1;bag 1;bag 1;bag 1;bag 1;bag 1;bag 1;");
            throwing(ARGUMENT, () -> x.type((char) 127));
            throwing(STATE, () -> x.type('b'));
            throwing(ARGUMENT, x::execute);
            is(60, x.errorPosition());
            throwing(ELEMENT, x::failedCommand);
        });
    }

    private static void whatThrowsChangesNothing() {
        EdgeCalls.visitAll((name, call) -> {
            for (EdgeCalls.State state : EdgeCalls.STATES) {
                CourierBags x = state.get();
                String outcome = States.outcome(() -> call.apply(x));
                if (outcome.endsWith("Exception") || EdgeCalls.onlyAsks(name)) {
                    unchanged(state, call, changedBy(name, outcome));
                }
            }
        });
    }

    private static String[] changedBy(String name, String outcome) {
        if (name.equals("execute")) {
            return new String[] {"buffer", "refusal", "error position", "failed command"};
        }
        return outcome.equals("UnsupportedOperationException") ? new String[] {"refusal"} : new String[0];
    }

    // ---- constants

    private static void constants() {
        paragraph("The constants:", "`NO_SPACE = 2`", "`WRONG_ORDER = 3`", "`TOO_FRAGILE = 4`");
        sentence("`TOO_HEAVY = 1`: Reason for a refusal: the weight limit.", () -> {
            is(1, CourierBags.TOO_HEAVY);
            putRefused(1, States.withBags(1), 1, 2, 1);
        });
        sentence("`NO_SPACE = 2`: Reason for a refusal: no room for a new layer.", () -> {
            is(2, CourierBags.NO_SPACE);
            CourierBags x = States.withBags(99);
            for (int layer = 0; layer < 5; layer++) {
                put(x, 10, 1, 1);
            }
            putRefused(2, x, 10, 1, 1);
        });
        sentence("`WRONG_ORDER = 3`: Reason for a refusal: an earlier stop below.", () -> {
            is(3, CourierBags.WRONG_ORDER);
            CourierBags x = States.withBags(99);
            put(x, 10, 1, 1);
            putRefused(3, x, 10, 1, 2);
        });
        sentence("`TOO_FRAGILE = 4`: Reason for a refusal: a fragile item below.", () -> {
            is(4, CourierBags.TOO_FRAGILE);
            CourierBags x = States.withBags(99);
            putFragile(x, 10, 1, 1);
            putRefused(4, x, 10, 9, 1);
        });
    }
}
