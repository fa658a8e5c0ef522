import java.util.NoSuchElementException;

/** A packer for courier bags. */
public final class CourierBags {
    public static final int TOO_HEAVY = 1;
    public static final int NO_SPACE = 2;
    public static final int WRONG_ORDER = 3;
    public static final int TOO_FRAGILE = 4;

    private static final int NOT_REFUSED = 0;
    private static final int MAX_ITEMS = 12;
    private static final int MAX_SIZE = 10;
    private static final int MAX_WEIGHT = 20;
    private static final int MAX_STOP = 30;
    private static final int MAX_BAGS = 3;
    private static final int MAX_LIMIT = 99;
    private static final int MAX_LAYERS = 5;
    private static final int LAYER_SIZE = 10;
    private static final int FRAGILE_LOAD = 8;
    private static final int BUFFER_SIZE = 60;
    private static final int UNDO_DEPTH = 8;
    private static final char FIRST_TYPED = 32;
    private static final char LAST_TYPED = 126;
    private static final int UNKNOWN = -1;

    private final Cargo cargo = new Cargo();
    private final Cargo beforeProgram = new Cargo();
    private final Cargo snapshot = new Cargo();
    private final History history = new History();
    private final Script script = new Script();
    private final StringBuilder label = new StringBuilder();
    // The table over weights of bestLoadByTable, kept so that no call makes a new one.
    private final int[] bestSizes = new int[MAX_LIMIT + 1];
    private boolean hasSnapshot;
    private int lastReason = NOT_REFUSED;
    private int lastRefused = UNKNOWN;
    private int lastErrorPosition = UNKNOWN;
    private int lastFailedCommand = UNKNOWN;

    public CourierBags() {
    }

    // ---- bags and items

    public int addBag(int limit) throws IllegalArgumentException, IllegalStateException {
        raise(cargo.openFault(limit));
        history.push(cargo);
        return cargo.open(limit);
    }

    public int addItem(int size, int weight, int stop, boolean isFragile)
            throws IllegalArgumentException, IllegalStateException {
        raise(cargo.takeInFault(size, weight, stop));
        history.push(cargo);
        return cargo.takeIn(size, weight, stop, isFragile);
    }

    public int removeItem(int item) throws NoSuchElementException, IllegalStateException {
        raise(cargo.dropFault(item));
        history.push(cargo);
        return cargo.drop(item);
    }

    // ---- packing and delivery

    public int pack(int item, int bag) throws NoSuchElementException, IndexOutOfBoundsException,
            IllegalStateException, UnsupportedOperationException {
        Fault fault = cargo.loadFault(item, bag);
        keepRefusal(fault, item, bag);
        raise(fault);
        history.push(cargo);
        return cargo.load(item, bag);
    }

    public boolean canPack(int item, int bag) throws NoSuchElementException, IndexOutOfBoundsException {
        requireItem(item);
        requireBag(bag);
        return cargo.loadFault(item, bag) == Fault.NONE;
    }

    public int unpack(int item) throws NoSuchElementException, IllegalStateException {
        raise(cargo.unloadFault(item));
        history.push(cargo);
        return cargo.unload(item);
    }

    public int autoPack(int bag) throws IndexOutOfBoundsException {
        raise(cargo.fillFault(bag));
        history.push(cargo);
        return cargo.fill(bag);
    }

    public int deliver() throws IllegalStateException {
        raise(cargo.handOverFault());
        history.push(cargo);
        return cargo.handOver();
    }

    public int nextStop() throws NoSuchElementException {
        if (!cargo.hasPackedItem()) {
            throw new NoSuchElementException("no item is packed");
        }
        return cargo.lowestPackedStop();
    }

    public int deliveredCount() {
        return cargo.deliveredItems;
    }

    public int deliveredWeight() {
        return cargo.deliveredLoad;
    }

    // ---- questions about items

    public int itemCount() {
        return cargo.countItems();
    }

    public int depotCount() {
        return cargo.countDepot();
    }

    public boolean exists(int item) {
        return cargo.find(item).isThere();
    }

    public int sizeOf(int item) throws NoSuchElementException {
        return requireItem(item).size;
    }

    public int weightOf(int item) throws NoSuchElementException {
        return requireItem(item).weight;
    }

    public int stopOf(int item) throws NoSuchElementException {
        return requireItem(item).stop;
    }

    public boolean isFragile(int item) throws NoSuchElementException {
        return requireItem(item).fragile;
    }

    public boolean isPacked(int item) throws NoSuchElementException {
        return requireItem(item).isInBag();
    }

    public int bagOf(int item) throws NoSuchElementException {
        return requirePacked(item).bag;
    }

    public int layerOf(int item) throws NoSuchElementException {
        return requirePacked(item).layer;
    }

    public int itemAtRank(int rank) throws IndexOutOfBoundsException {
        Item item = cargo.findRank(rank);
        if (!item.isThere()) {
            throw new IndexOutOfBoundsException("there is no such rank");
        }
        return item.id;
    }

    // ---- questions about bags

    public int bagCount() {
        return cargo.openBags;
    }

    public int limitOf(int bag) throws IndexOutOfBoundsException {
        requireBag(bag);
        return cargo.limit(bag);
    }

    public int weightIn(int bag) throws IndexOutOfBoundsException {
        requireBag(bag);
        return cargo.weightByItems(bag);
    }

    public int weightInByLayers(int bag) throws IndexOutOfBoundsException {
        requireBag(bag);
        return cargo.weightByLayers(bag);
    }

    public int weightLeft(int bag) throws IndexOutOfBoundsException {
        requireBag(bag);
        return cargo.roomIn(bag);
    }

    public int layerCount(int bag) throws IndexOutOfBoundsException {
        requireBag(bag);
        return cargo.countLayers(bag);
    }

    public int itemsInLayer(int bag, int layer) throws IndexOutOfBoundsException {
        requireLayer(bag, layer);
        return cargo.countInLayer(bag, layer);
    }

    public int itemAt(int bag, int layer, int position) throws IndexOutOfBoundsException, NoSuchElementException {
        requireLayer(bag, layer);
        Item item = cargo.findPlace(bag, layer, position);
        if (!item.isThere()) {
            throw new NoSuchElementException("there is no such position");
        }
        return item.id;
    }

    public int sizeUsed(int bag, int layer) throws IndexOutOfBoundsException {
        requireLayer(bag, layer);
        return cargo.sizeOfLayer(bag, layer);
    }

    public int loadOf(int bag, int layer) throws IndexOutOfBoundsException {
        requireLayer(bag, layer);
        return cargo.loadOn(bag, layer);
    }

    public int bestLoad(int bag) throws IndexOutOfBoundsException {
        requireBag(bag);
        return cargo.bestBySets(bag);
    }

    public int bestLoadByTable(int bag) throws IndexOutOfBoundsException {
        requireBag(bag);
        return cargo.bestByTable(bag, bestSizes);
    }

    public int emptiestBag() throws NoSuchElementException {
        if (cargo.openBags == 0) {
            throw new NoSuchElementException("there are no bags");
        }
        return cargo.findEmptiest();
    }

    public double shareUsed() throws ArithmeticException {
        int limits = cargo.sumOfLimits();
        if (limits == 0) {
            throw new ArithmeticException("there are no bags");
        }
        return (double) cargo.packedWeight() / (double) limits;
    }

    public boolean isConsistent() {
        return cargo.isSound();
    }

    // ---- refusals

    public int refusalReason() throws NoSuchElementException {
        if (lastReason == NOT_REFUSED) {
            throw new NoSuchElementException("no packing was refused so far");
        }
        return lastReason;
    }

    public int refusedItem() throws NoSuchElementException {
        if (lastReason == NOT_REFUSED) {
            throw new NoSuchElementException("no packing was refused so far");
        }
        return lastRefused;
    }

    // ---- label and commands

    public int writeLabel(int bag) throws IndexOutOfBoundsException {
        requireBag(bag);
        label.setLength(0);
        cargo.describe(bag, label);
        return label.length();
    }

    public char labelAt(int index) throws IndexOutOfBoundsException {
        if (index < 0 || index >= label.length()) {
            throw new IndexOutOfBoundsException("there is no such character");
        }
        return label.charAt(index);
    }

    public int type(char character) throws IllegalArgumentException, IllegalStateException {
        if (character < FIRST_TYPED || character > LAST_TYPED) {
            throw new IllegalArgumentException("the character is not from 32 to 126");
        }
        if (script.isFull()) {
            throw new IllegalStateException("the buffer contains 60 characters");
        }
        return script.append(character);
    }

    public int execute() throws IllegalArgumentException, IllegalStateException {
        int commands = script.countCommands();
        if (commands == Script.MALFORMED) {
            lastErrorPosition = script.position;
            script.clear();
            throw new IllegalArgumentException("the program is malformed");
        }
        beforeProgram.copyFrom(cargo);
        int done = runCommands(commands);
        script.clear();
        if (done < commands) {
            cargo.copyFrom(beforeProgram);
            lastFailedCommand = done;
            throw new IllegalStateException("a command failed");
        }
        history.push(beforeProgram);
        return commands;
    }

    public int errorPosition() throws NoSuchElementException {
        if (lastErrorPosition == UNKNOWN) {
            throw new NoSuchElementException("no program was malformed so far");
        }
        return lastErrorPosition;
    }

    public int failedCommand() throws NoSuchElementException {
        if (lastFailedCommand == UNKNOWN) {
            throw new NoSuchElementException("no command failed so far");
        }
        return lastFailedCommand;
    }

    // ---- undo and snapshots

    public int undo() throws IllegalStateException {
        if (history.count == 0) {
            throw new IllegalStateException("there is no modification to undo");
        }
        history.popInto(cargo);
        return history.count;
    }

    public int save() {
        snapshot.copyFrom(cargo);
        hasSnapshot = true;
        return cargo.countItems();
    }

    public int restore() throws IllegalStateException {
        if (!hasSnapshot) {
            throw new IllegalStateException("there is no snapshot");
        }
        cargo.copyFrom(snapshot);
        history.clear();
        return cargo.countItems();
    }

    // ---- what the calls share

    private static void raise(Fault fault) {
        if (fault == Fault.OUT_OF_RANGE) {
            throw new IllegalArgumentException("an argument is out of range");
        }
        if (fault == Fault.NO_SUCH_ITEM) {
            throw new NoSuchElementException("no item has this id");
        }
        if (fault == Fault.NO_SUCH_BAG) {
            throw new IndexOutOfBoundsException("there is no such bag");
        }
        if (fault == Fault.WRONG_STATE) {
            throw new IllegalStateException("not as bags and items stand");
        }
        if (fault == Fault.REFUSED) {
            throw new UnsupportedOperationException("the packing is refused");
        }
    }

    private Item requireItem(int id) {
        Item item = cargo.find(id);
        if (!item.isThere()) {
            throw new NoSuchElementException("no item has this id");
        }
        return item;
    }

    private Item requirePacked(int id) {
        Item item = cargo.find(id);
        if (!item.isInBag()) {
            throw new NoSuchElementException("no packed item has this id");
        }
        return item;
    }

    private void requireBag(int bag) {
        if (!cargo.hasBag(bag)) {
            throw new IndexOutOfBoundsException("there is no such bag");
        }
    }

    private void requireLayer(int bag, int layer) {
        requireBag(bag);
        if (layer < 0 || layer >= cargo.countLayers(bag)) {
            throw new IndexOutOfBoundsException("there is no such layer");
        }
    }

    private void keepRefusal(Fault fault, int item, int bag) {
        if (fault == Fault.REFUSED) {
            lastReason = cargo.refusal(cargo.find(item), bag);
            lastRefused = item;
        }
    }

    /** Stops at the first command that fails, and returns how many were run. */
    private int runCommands(int commands) {
        script.rewind();
        for (int done = 0; done < commands; done++) {
            script.readCommand();
            Fault fault = commandFault();
            if (fault != Fault.NONE) {
                // Only a pack command can be refused: its numbers are the item and the bag.
                keepRefusal(fault, script.number(0), script.number(1));
                return done;
            }
            runCommand();
            script.take(Script.SEPARATOR);
        }
        return commands;
    }

    private Fault commandFault() {
        int first = script.number(0);
        switch (script.kind) {
            case BAG:
                return cargo.openFault(first);
            case ITEM:
                return cargo.takeInFault(first, script.number(1), script.number(2));
            case DROP:
                return cargo.dropFault(first);
            case PACK:
                return cargo.loadFault(first, script.number(1));
            case UNPACK:
                return cargo.unloadFault(first);
            case FILL:
                return cargo.fillFault(first);
            default:
                return cargo.handOverFault();
        }
    }

    private void runCommand() {
        int first = script.number(0);
        switch (script.kind) {
            case BAG:
                cargo.open(first);
                break;
            case ITEM:
                cargo.takeIn(first, script.number(1), script.number(2), script.isMarked);
                break;
            case DROP:
                cargo.drop(first);
                break;
            case PACK:
                cargo.load(first, script.number(1));
                break;
            case UNPACK:
                cargo.unload(first);
                break;
            case FILL:
                cargo.fill(first);
                break;
            default:
                cargo.handOver();
                break;
        }
    }

    /** Why a modification can't be made. The checks come apart from the throws, so that execute needs no catch. */
    private enum Fault {
        NONE, OUT_OF_RANGE, NO_SUCH_ITEM, NO_SUCH_BAG, WRONG_STATE, REFUSED
    }

    /** One of the twelve places for items. A place is used again when its item is gone. */
    private static final class Item {
        static final int FREE = -2;
        static final int DEPOT = -1;

        int id;
        int size;
        int weight;
        int stop;
        boolean fragile;
        int bag = FREE;
        int layer;
        int position;

        boolean isThere() {
            return bag != FREE;
        }

        boolean isInDepot() {
            return bag == DEPOT;
        }

        boolean isInBag() {
            return bag >= 0;
        }

        boolean ranksBefore(Item other) {
            if (stop != other.stop) {
                return stop > other.stop;
            }
            if (weight != other.weight) {
                return weight > other.weight;
            }
            return id < other.id;
        }

        void copyFrom(Item other) {
            id = other.id;
            size = other.size;
            weight = other.weight;
            stop = other.stop;
            fragile = other.fragile;
            bag = other.bag;
            layer = other.layer;
            position = other.position;
        }
    }

    /**
     * All that undo and restore bring back. A modification is made in two calls: the one that ends in Fault tells
     * whether it can be made, and the other one makes it and is called only then.
     */
    private static final class Cargo {
        private final Item[] items = new Item[MAX_ITEMS];
        // Stands for an item that is not there, so that no reference is null.
        private final Item nobody = new Item();
        private final int[] limits = new int[MAX_BAGS];
        private int nextId;
        private int openBags;
        private int deliveredItems;
        private int deliveredLoad;

        Cargo() {
            for (int slot = 0; slot < items.length; slot++) {
                items[slot] = new Item();
            }
        }

        void copyFrom(Cargo other) {
            for (int slot = 0; slot < MAX_ITEMS; slot++) {
                items[slot].copyFrom(other.items[slot]);
            }
            for (int bag = 0; bag < MAX_BAGS; bag++) {
                limits[bag] = other.limits[bag];
            }
            nextId = other.nextId;
            openBags = other.openBags;
            deliveredItems = other.deliveredItems;
            deliveredLoad = other.deliveredLoad;
        }

        // -- modifications

        Fault openFault(int limit) {
            if (limit < 1 || limit > MAX_LIMIT) {
                return Fault.OUT_OF_RANGE;
            }
            return openBags >= MAX_BAGS ? Fault.WRONG_STATE : Fault.NONE;
        }

        int open(int limit) {
            int bag = openBags;
            if (bag < MAX_BAGS) {
                limits[bag] = limit;
                openBags++;
            }
            return bag;
        }

        Fault takeInFault(int size, int weight, int stop) {
            if (size < 1 || size > MAX_SIZE || weight < 1 || weight > MAX_WEIGHT || stop < 1 || stop > MAX_STOP) {
                return Fault.OUT_OF_RANGE;
            }
            return countItems() >= MAX_ITEMS ? Fault.WRONG_STATE : Fault.NONE;
        }

        int takeIn(int size, int weight, int stop, boolean fragile) {
            Item item = findFree();
            item.id = nextId;
            item.size = size;
            item.weight = weight;
            item.stop = stop;
            item.fragile = fragile;
            item.bag = Item.DEPOT;
            nextId++;
            return item.id;
        }

        Fault dropFault(int id) {
            Item item = find(id);
            if (!item.isThere()) {
                return Fault.NO_SUCH_ITEM;
            }
            return item.isInBag() ? Fault.WRONG_STATE : Fault.NONE;
        }

        int drop(int id) {
            find(id).bag = Item.FREE;
            return countItems();
        }

        Fault loadFault(int id, int bag) {
            Item item = find(id);
            if (!item.isThere()) {
                return Fault.NO_SUCH_ITEM;
            }
            if (!hasBag(bag)) {
                return Fault.NO_SUCH_BAG;
            }
            if (item.isInBag()) {
                return Fault.WRONG_STATE;
            }
            return refusal(item, bag) == NOT_REFUSED ? Fault.NONE : Fault.REFUSED;
        }

        int load(int id, int bag) {
            Item item = find(id);
            putInto(item, bag);
            return item.layer;
        }

        Fault unloadFault(int id) {
            Item item = find(id);
            if (!item.isThere()) {
                return Fault.NO_SUCH_ITEM;
            }
            boolean isOnTop = item.isInBag() && item.layer == countLayers(item.bag) - 1;
            return isOnTop ? Fault.NONE : Fault.WRONG_STATE;
        }

        int unload(int id) {
            Item item = find(id);
            int bag = item.bag;
            takeOut(item);
            return countLayers(bag);
        }

        Fault fillFault(int bag) {
            return hasBag(bag) ? Fault.NONE : Fault.NO_SUCH_BAG;
        }

        int fill(int bag) {
            int packed = 0;
            int count = countItems();
            for (int rank = 0; rank < count; rank++) {
                Item item = findRank(rank);
                if (item.isInDepot() && refusal(item, bag) == NOT_REFUSED) {
                    putInto(item, bag);
                    packed++;
                }
            }
            return packed;
        }

        Fault handOverFault() {
            return hasPackedItem() ? Fault.NONE : Fault.WRONG_STATE;
        }

        int handOver() {
            int stop = lowestPackedStop();
            int delivered = 0;
            for (Item item : items) {
                if (item.isInBag() && item.stop == stop) {
                    takeOut(item);
                    item.bag = Item.FREE;
                    delivered++;
                    deliveredLoad += item.weight;
                }
            }
            deliveredItems += delivered;
            return delivered;
        }

        private void putInto(Item item, int bag) {
            int layer = targetLayer(item, bag);
            item.position = countInLayer(bag, layer);
            item.layer = layer;
            item.bag = bag;
        }

        private void takeOut(Item gone) {
            int bag = gone.bag;
            gone.bag = Item.DEPOT;
            boolean isLayerEmpty = countInLayer(bag, gone.layer) == 0;
            for (Item item : items) {
                if (item.bag == bag && item.layer == gone.layer && item.position > gone.position) {
                    item.position--;
                }
                if (item.bag == bag && item.layer > gone.layer && isLayerEmpty) {
                    item.layer--;
                }
            }
        }

        // -- packing rules

        int refusal(Item item, int bag) {
            int layer = targetLayer(item, bag);
            if (item.weight > roomIn(bag)) {
                return TOO_HEAVY;
            }
            if (layer >= MAX_LAYERS) {
                return NO_SPACE;
            }
            if (hasEarlierStopBelow(item, bag, layer)) {
                return WRONG_ORDER;
            }
            return crushesBelow(item, bag, layer) ? TOO_FRAGILE : NOT_REFUSED;
        }

        private int targetLayer(Item item, int bag) {
            int layers = countLayers(bag);
            boolean fitsOnTop = layers > 0 && sizeOfLayer(bag, layers - 1) + item.size <= LAYER_SIZE;
            return fitsOnTop ? layers - 1 : layers;
        }

        private boolean hasEarlierStopBelow(Item upper, int bag, int layer) {
            for (Item item : items) {
                if (item.bag == bag && item.layer < layer && item.stop < upper.stop) {
                    return true;
                }
            }
            return false;
        }

        private boolean crushesBelow(Item upper, int bag, int layer) {
            for (Item item : items) {
                if (item.bag == bag && item.layer < layer && item.fragile
                        && loadOn(bag, item.layer) + upper.weight > FRAGILE_LOAD) {
                    return true;
                }
            }
            return false;
        }

        // -- items

        Item find(int id) {
            for (Item item : items) {
                if (item.isThere() && item.id == id) {
                    return item;
                }
            }
            return nobody;
        }

        Item findRank(int rank) {
            for (Item item : items) {
                if (item.isThere() && rankOf(item) == rank) {
                    return item;
                }
            }
            return nobody;
        }

        Item findPlace(int bag, int layer, int position) {
            for (Item item : items) {
                if (item.bag == bag && item.layer == layer && item.position == position) {
                    return item;
                }
            }
            return nobody;
        }

        private Item findFree() {
            for (Item item : items) {
                if (!item.isThere()) {
                    return item;
                }
            }
            return nobody;
        }

        private int rankOf(Item item) {
            int rank = 0;
            for (Item other : items) {
                if (other.isThere() && other.ranksBefore(item)) {
                    rank++;
                }
            }
            return rank;
        }

        int countItems() {
            int count = 0;
            for (Item item : items) {
                if (item.isThere()) {
                    count++;
                }
            }
            return count;
        }

        int countDepot() {
            int count = 0;
            for (Item item : items) {
                if (item.isInDepot()) {
                    count++;
                }
            }
            return count;
        }

        boolean hasPackedItem() {
            return countDepot() < countItems();
        }

        int lowestPackedStop() {
            int lowest = MAX_STOP;
            for (Item item : items) {
                if (item.isInBag()) {
                    lowest = Math.min(lowest, item.stop);
                }
            }
            return lowest;
        }

        int packedWeight() {
            int weight = 0;
            for (Item item : items) {
                if (item.isInBag()) {
                    weight += item.weight;
                }
            }
            return weight;
        }

        // -- bags

        boolean hasBag(int bag) {
            return bag >= 0 && bag < openBags;
        }

        int limit(int bag) {
            return bag >= 0 && bag < limits.length ? limits[bag] : 0;
        }

        int sumOfLimits() {
            int sum = 0;
            for (int bag = 0; bag < openBags; bag++) {
                sum += limit(bag);
            }
            return sum;
        }

        int weightByItems(int bag) {
            int weight = 0;
            for (Item item : items) {
                if (item.bag == bag) {
                    weight += item.weight;
                }
            }
            return weight;
        }

        int weightByLayers(int bag) {
            return loadOn(bag, 0) + weightOfLayer(bag, 0);
        }

        int roomIn(int bag) {
            return limit(bag) - weightByItems(bag);
        }

        int findEmptiest() {
            int emptiest = 0;
            for (int bag = 1; bag < openBags; bag++) {
                if (roomIn(bag) > roomIn(emptiest)) {
                    emptiest = bag;
                }
            }
            return emptiest;
        }

        int countLayers(int bag) {
            int layers = 0;
            for (Item item : items) {
                if (item.bag == bag) {
                    layers = Math.max(layers, item.layer + 1);
                }
            }
            return layers;
        }

        int countInLayer(int bag, int layer) {
            int count = 0;
            for (Item item : items) {
                if (item.bag == bag && item.layer == layer) {
                    count++;
                }
            }
            return count;
        }

        int sizeOfLayer(int bag, int layer) {
            int size = 0;
            for (Item item : items) {
                if (item.bag == bag && item.layer == layer) {
                    size += item.size;
                }
            }
            return size;
        }

        private int weightOfLayer(int bag, int layer) {
            int weight = 0;
            for (Item item : items) {
                if (item.bag == bag && item.layer == layer) {
                    weight += item.weight;
                }
            }
            return weight;
        }

        int loadOn(int bag, int layer) {
            int load = 0;
            for (Item item : items) {
                if (item.bag == bag && item.layer > layer) {
                    load += item.weight;
                }
            }
            return load;
        }

        void describe(int bag, StringBuilder text) {
            for (int layer = countLayers(bag) - 1; layer >= 0; layer--) {
                text.append('[');
                describeLayer(bag, layer, text);
                text.append(']');
            }
        }

        private void describeLayer(int bag, int layer, StringBuilder text) {
            int count = countInLayer(bag, layer);
            for (int position = 0; position < count; position++) {
                Item item = findPlace(bag, layer, position);
                if (position > 0) {
                    text.append(' ');
                }
                text.append(item.id);
                if (item.fragile) {
                    text.append('!');
                }
            }
        }

        // -- best load

        int bestBySets(int bag) {
            return bestFrom(items, 0, roomIn(bag));
        }

        /** Tries every set of the items from a slot on; the slot is the depth, and ends with the array. */
        private static int bestFrom(Item[] items, int slot, int room) {
            if (slot < 0 || slot >= items.length) {
                return 0;
            }
            Item item = items[slot];
            int without = bestFrom(items, slot + 1, room);
            if (!item.isInDepot() || item.weight > room) {
                return without;
            }
            return Math.max(without, item.size + bestFrom(items, slot + 1, room - item.weight));
        }

        int bestByTable(int bag, int[] bestSizes) {
            int room = roomIn(bag);
            if (room < 0 || room >= bestSizes.length) {
                return 0;
            }
            for (int weight = 0; weight <= room; weight++) {
                bestSizes[weight] = 0;
            }
            for (Item item : items) {
                if (item.isInDepot()) {
                    extendTable(bestSizes, item, room);
                }
            }
            return bestSizes[room];
        }

        private static void extendTable(int[] bestSizes, Item item, int room) {
            // From the top down, so that an entry without the item is read before it is replaced.
            for (int weight = room; weight >= item.weight; weight--) {
                bestSizes[weight] = Math.max(bestSizes[weight], bestSizes[weight - item.weight] + item.size);
            }
        }

        // -- consistency

        boolean isSound() {
            for (int bag = 0; bag < openBags; bag++) {
                if (!isWeightSound(bag) || !areLayersSound(bag)) {
                    return false;
                }
            }
            for (Item item : items) {
                if (item.isInBag() && hasEarlierStopBelow(item, item.bag, item.layer)) {
                    return false;
                }
            }
            return true;
        }

        private boolean isWeightSound(int bag) {
            int weight = weightByItems(bag);
            return weight == weightByLayers(bag) && weight <= limit(bag);
        }

        private boolean areLayersSound(int bag) {
            for (Item item : items) {
                if (item.bag == bag && sizeOfLayer(bag, item.layer) > LAYER_SIZE) {
                    return false;
                }
                if (item.bag == bag && item.fragile && loadOn(bag, item.layer) > FRAGILE_LOAD) {
                    return false;
                }
            }
            return true;
        }
    }

    /** The states before the last modifications, the latest one at the end. */
    private static final class History {
        private final Cargo[] states = new Cargo[UNDO_DEPTH];
        private int count;

        History() {
            for (int step = 0; step < states.length; step++) {
                states[step] = new Cargo();
            }
        }

        void push(Cargo state) {
            if (count >= UNDO_DEPTH) {
                forgetOldest();
            }
            states[count].copyFrom(state);
            count++;
        }

        private void forgetOldest() {
            Cargo oldest = states[0];
            for (int step = 1; step < UNDO_DEPTH; step++) {
                states[step - 1] = states[step];
            }
            states[UNDO_DEPTH - 1] = oldest;
            count = UNDO_DEPTH - 1;
        }

        void popInto(Cargo state) {
            if (count > 0) {
                count--;
                state.copyFrom(states[count]);
            }
        }

        void clear() {
            count = 0;
        }
    }

    /** The commands of the grammar: N is a number, D a digit, ! may stand or not, and all else stands for itself. */
    private enum Kind {
        BAG("bag N"),
        ITEM("item N N N!"),
        DROP("drop N"),
        PACK("pack N D"),
        UNPACK("unpack N"),
        FILL("fill D"),
        DELIVER("deliver");

        private static final Kind[] ALL = values();
        private final String pattern;

        Kind(String pattern) {
            this.pattern = pattern;
        }
    }

    /** The buffer, and a reader that takes one command after the other from it. */
    private static final class Script {
        static final int MALFORMED = -1;
        static final char SEPARATOR = ';';
        private static final char MARK = '!';

        private final char[] text = new char[BUFFER_SIZE];
        private int length;
        // Where the reader stands; behind a malformed program, its error position.
        private int position;
        private Kind kind = Kind.DELIVER;
        private final int[] numbers = new int[3];
        private int numberCount;
        private boolean isMarked;

        boolean isFull() {
            return length >= text.length;
        }

        int append(char character) {
            if (!isFull()) {
                text[length] = character;
                length++;
            }
            return length;
        }

        void clear() {
            length = 0;
        }

        void rewind() {
            position = 0;
        }

        /** Returns the number of commands, or MALFORMED. */
        int countCommands() {
            rewind();
            for (int count = 1; count <= BUFFER_SIZE; count++) {
                if (!readCommand()) {
                    return MALFORMED;
                }
                if (position >= length) {
                    return count;
                }
                if (!take(SEPARATOR)) {
                    return MALFORMED;
                }
            }
            return MALFORMED;
        }

        /** Reads the command that follows; if there is none, goes as far as the command that comes closest does. */
        boolean readCommand() {
            int start = position;
            int furthest = start;
            for (Kind candidate : Kind.ALL) {
                position = start;
                if (readPattern(candidate.pattern)) {
                    kind = candidate;
                    return true;
                }
                furthest = Math.max(furthest, position);
            }
            position = furthest;
            return false;
        }

        private boolean readPattern(String pattern) {
            numberCount = 0;
            isMarked = false;
            for (int index = 0; index < pattern.length(); index++) {
                if (!readPart(pattern.charAt(index))) {
                    return false;
                }
            }
            return true;
        }

        private boolean readPart(char part) {
            if (part == 'N') {
                return readNumber(2);
            }
            if (part == 'D') {
                return readNumber(1);
            }
            if (part == MARK) {
                isMarked = take(MARK);
                return true;
            }
            return take(part);
        }

        private boolean readNumber(int mostDigits) {
            int value = 0;
            int digits = 0;
            while (digits < mostDigits && isAtDigit()) {
                value = 10 * value + (text[position] - '0');
                position++;
                digits++;
            }
            if (digits == 0 || numberCount >= numbers.length) {
                return false;
            }
            numbers[numberCount] = value;
            numberCount++;
            return true;
        }

        private boolean isAtDigit() {
            return position < length && text[position] >= '0' && text[position] <= '9';
        }

        boolean take(char wanted) {
            if (position >= length || text[position] != wanted) {
                return false;
            }
            position++;
            return true;
        }

        int number(int index) {
            return index >= 0 && index < numberCount ? numbers[index] : 0;
        }
    }
}
