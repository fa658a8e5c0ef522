import java.util.NoSuchElementException;
import java.util.function.Supplier;

/** At least one test for each promise of the document: ordinary inputs, the edges that it names, and wrong inputs. */
public final class CourierBagsPromisesTest {
    private static final Class<?> ARGUMENT = IllegalArgumentException.class;
    private static final Class<?> STATE = IllegalStateException.class;
    private static final Class<?> ELEMENT = NoSuchElementException.class;
    private static final Class<?> INDEX = IndexOutOfBoundsException.class;
    private static final Class<?> REFUSED = UnsupportedOperationException.class;
    private static final Class<?> ARITHMETIC = ArithmeticException.class;
    private static final int[] NO_BAGS = {Integer.MIN_VALUE, -2, -1, 2, 3, Integer.MAX_VALUE};

    private static int promise = 0;
    private static int checks = 0;
    private static int wrong = 0;

    public static void main(String[] args) {
        newObject();
        addBag();
        addItem();
        removeItem();
        pack();
        packReasons();
        canPack();
        unpack();
        autoPack();
        deliver();
        delivered();
        counts();
        itemQuestions();
        places();
        ranks();
        bags();
        weights();
        layers();
        bestLoads();
        emptiestBag();
        shareUsed();
        consistency();
        refusals();
        labels();
        typing();
        executing();
        errorPositions();
        failedCommands();
        undoing();
        undoAndWhatItLeaves();
        snapshots();
        System.out.println(checks + " checks of the promises, " + wrong + " wrong");
        if (wrong != 0) {
            System.exit(1);
        }
    }

    // ---- how a check is written

    private static void is(Object want, Object got) {
        checks++;
        if (!want.equals(got)) {
            wrong++;
            System.out.println("promise " + promise + ", line " + lineOfCheck() + ": due is " + want + ", got " + got);
        }
    }

    private static int lineOfCheck() {
        for (StackTraceElement frame : new Throwable().getStackTrace()) {
            String name = frame.getMethodName();
            if (!name.equals("lineOfCheck") && !name.equals("is") && !name.equals("throwing")) {
                return frame.getLineNumber();
            }
        }
        return 0;
    }

    private static void throwing(Class<?> want, Supplier<?> call) {
        Object got;
        try {
            got = "answer " + call.get();
        } catch (RuntimeException e) {
            got = e.getClass();
        }
        is(want, got);
    }

    private static CourierBags withBags(int... limits) {
        CourierBags x = new CourierBags();
        for (int limit : limits) {
            x.addBag(limit);
        }
        return x;
    }

    private static void write(CourierBags x, String text) {
        if (text.length() > 60) {
            // An exception of type must not be taken for one of execute.
            throw new AssertionError("too long for the buffer: " + text);
        }
        for (int i = 0; i < text.length(); i++) {
            x.type(text.charAt(i));
        }
    }

    private static int run(CourierBags x, String text) {
        write(x, text);
        return x.execute();
    }

    private static String label(CourierBags x, int bag) {
        int length = x.writeLabel(bag);
        StringBuilder text = new StringBuilder();
        for (int i = 0; i < length; i++) {
            text.append(x.labelAt(i));
        }
        return text.toString();
    }

    /** All that can be asked without a change, the buffer and the label left out. */
    private static String stateOf(CourierBags x) {
        StringBuilder text = new StringBuilder();
        for (int id = 0; id < 13; id++) {
            if (x.exists(id)) {
                text.append(id).append(':').append(x.sizeOf(id)).append(' ').append(x.weightOf(id)).append(' ')
                        .append(x.stopOf(id)).append(x.isFragile(id)).append(x.isPacked(id)).append(';');
            }
        }
        for (int bag = 0; bag < x.bagCount(); bag++) {
            text.append('|').append(x.limitOf(bag));
            for (int layer = 0; layer < x.layerCount(bag); layer++) {
                text.append('/');
                for (int position = 0; position < x.itemsInLayer(bag, layer); position++) {
                    text.append(x.itemAt(bag, layer, position)).append(' ');
                }
            }
        }
        return text.append(x.deliveredCount()).append(' ').append(x.deliveredWeight()).toString();
    }

    // ---- promise 1 and its like

    private static void newObject() {
        promise = 1;
        CourierBags x = new CourierBags();
        is(0, x.itemCount());
        is(0, x.depotCount());
        is(0, x.bagCount());
        is(0, x.deliveredCount());
        is(0, x.deliveredWeight());
        is(false, x.exists(0));
        throwing(STATE, x::undo);
        throwing(STATE, x::restore);
        throwing(INDEX, () -> x.labelAt(0));
        is(1, CourierBags.TOO_HEAVY);
        is(2, CourierBags.NO_SPACE);
        is(3, CourierBags.WRONG_ORDER);
        is(4, CourierBags.TOO_FRAGILE);
    }

    private static void addBag() {
        promise = 2;
        CourierBags x = new CourierBags();
        for (int limit : new int[] {0, -1, 100, Integer.MIN_VALUE, Integer.MAX_VALUE}) {
            throwing(ARGUMENT, () -> x.addBag(limit));
        }
        is(0, x.bagCount());
        is(0, x.addBag(1));
        is(1, x.addBag(99));
        is(2, x.addBag(50));
        throwing(STATE, () -> x.addBag(50));
        throwing(ARGUMENT, () -> x.addBag(0));
        throwing(ARGUMENT, () -> x.addBag(100));
        is(3, x.bagCount());
        is("1 99 50", x.limitOf(0) + " " + x.limitOf(1) + " " + x.limitOf(2));
        is(0, x.layerCount(0));
    }

    private static void addItem() {
        promise = 3;
        CourierBags x = new CourierBags();
        throwing(ARGUMENT, () -> x.addItem(0, 1, 1, false));
        throwing(ARGUMENT, () -> x.addItem(11, 1, 1, false));
        throwing(ARGUMENT, () -> x.addItem(1, 0, 1, false));
        throwing(ARGUMENT, () -> x.addItem(1, 21, 1, false));
        throwing(ARGUMENT, () -> x.addItem(1, 1, 0, false));
        throwing(ARGUMENT, () -> x.addItem(1, 1, 31, false));
        throwing(ARGUMENT, () -> x.addItem(Integer.MIN_VALUE, Integer.MAX_VALUE, -1, true));
        is(0, x.addItem(1, 1, 1, false));
        is(1, x.addItem(10, 20, 30, true));
        is("10 20 30 true", x.sizeOf(1) + " " + x.weightOf(1) + " " + x.stopOf(1) + " " + x.isFragile(1));
        is(false, x.isPacked(1));
        for (int id = 2; id < 12; id++) {
            is(id, x.addItem(1, 1, 1, false));
        }
        throwing(STATE, () -> x.addItem(1, 1, 1, false));
        throwing(ARGUMENT, () -> x.addItem(11, 1, 1, false));
        is(12, x.itemCount());
        x.removeItem(4);
        is(12, x.addItem(1, 1, 1, false));
        x.addBag(99);
        x.pack(0, 0);
        throwing(STATE, () -> x.addItem(1, 1, 1, false));
    }

    private static void removeItem() {
        promise = 4;
        CourierBags x = withBags(10);
        x.addItem(1, 1, 1, false);
        x.addItem(2, 2, 2, false);
        x.addItem(3, 3, 3, false);
        x.pack(0, 0);
        throwing(STATE, () -> x.removeItem(0));
        for (int id : new int[] {-2, -1, 3, Integer.MAX_VALUE, Integer.MIN_VALUE}) {
            throwing(ELEMENT, () -> x.removeItem(id));
        }
        is(2, x.removeItem(1));
        throwing(ELEMENT, () -> x.removeItem(1));
        is(false, x.exists(1));
        is(true, x.exists(2));
        is(1, x.removeItem(2));
        is(3, x.addItem(1, 1, 1, false));
        x.unpack(0);
        is(1, x.removeItem(0));
        is(0, x.removeItem(3));
    }

    // ---- packing and delivery

    private static void pack() {
        promise = 5;
        CourierBags x = withBags(99, 99);
        x.addItem(6, 1, 5, false);
        x.addItem(4, 1, 5, false);
        x.addItem(1, 1, 5, false);
        x.addItem(10, 1, 5, false);
        is(0, x.pack(0, 0));
        is(0, x.pack(1, 0));
        is(1, x.pack(2, 0));
        is(2, x.pack(3, 0));
        is("[3][2][0 1]", label(x, 0));
        for (int bag : NO_BAGS) {
            throwing(INDEX, () -> x.pack(0, bag));
            throwing(ELEMENT, () -> x.pack(4, bag));
        }
        throwing(ELEMENT, () -> x.pack(-1, 0));
        throwing(STATE, () -> x.pack(0, 0));
        throwing(STATE, () -> x.pack(0, 1));
        is(0, x.layerCount(1));
    }

    private static void packReasons() {
        CourierBags x = withBags(20, 20);
        x.addItem(10, 20, 5, false);
        x.addItem(10, 1, 5, false);
        x.pack(0, 0);
        throwing(REFUSED, () -> x.pack(1, 0));
        is(CourierBags.TOO_HEAVY, x.refusalReason());
        is(0, x.pack(1, 1));

        CourierBags full = withBags(99);
        for (int id = 0; id < 6; id++) {
            full.addItem(8, 1, 9 - id, false);
        }
        full.addItem(2, 1, 4, false);
        full.addItem(2, 20, 30, false);
        for (int id = 0; id < 5; id++) {
            is(id, full.pack(id, 0));
        }
        throwing(REFUSED, () -> full.pack(5, 0));
        is(CourierBags.NO_SPACE, full.refusalReason());
        throwing(REFUSED, () -> full.pack(7, 0));
        is(CourierBags.WRONG_ORDER, full.refusalReason());
        is(4, full.pack(6, 0));

        CourierBags order = withBags(99);
        order.addItem(9, 1, 5, false);
        order.addItem(2, 1, 6, false);
        order.addItem(1, 1, 30, false);
        order.addItem(2, 1, 5, false);
        order.pack(0, 0);
        throwing(REFUSED, () -> order.pack(1, 0));
        is(CourierBags.WRONG_ORDER, order.refusalReason());
        is(0, order.pack(2, 0));
        is(1, order.pack(3, 0));

        CourierBags fragile = withBags(99);
        fragile.addItem(9, 20, 5, true);
        fragile.addItem(10, 8, 5, false);
        fragile.addItem(10, 1, 5, false);
        fragile.addItem(10, 9, 5, false);
        fragile.addItem(1, 20, 5, false);
        fragile.pack(0, 0);
        throwing(REFUSED, () -> fragile.pack(3, 0));
        is(CourierBags.TOO_FRAGILE, fragile.refusalReason());
        is(1, fragile.pack(1, 0));
        throwing(REFUSED, () -> fragile.pack(2, 0));
        is(CourierBags.TOO_FRAGILE, fragile.refusalReason());
        fragile.unpack(1);
        is(0, fragile.pack(4, 0));
        orderOfReasons();
        fragileDeepBelow();
    }

    private static void orderOfReasons() {
        CourierBags x = withBags(30);
        x.addItem(10, 1, 5, true);
        for (int id = 1; id < 5; id++) {
            x.addItem(10, 2, 5, false);
        }
        x.addItem(10, 20, 9, false);
        x.addItem(10, 20, 9, false);
        for (int id = 0; id < 4; id++) {
            x.pack(id, 0);
        }
        throwing(REFUSED, () -> x.pack(5, 0));
        is(CourierBags.WRONG_ORDER, x.refusalReason());
        x.pack(4, 0);
        throwing(REFUSED, () -> x.pack(5, 0));
        is(CourierBags.NO_SPACE, x.refusalReason());
        CourierBags y = withBags(28);
        run(y, "item 10 1 5!;item 10 2 5;item 10 2 5;item 10 2 5;item 10 2 5");
        run(y, "pack 0 0;pack 1 0;pack 2 0;pack 3 0;pack 4 0;item 10 20 9");
        throwing(REFUSED, () -> y.pack(5, 0));
        is(CourierBags.TOO_HEAVY, y.refusalReason());
    }

    private static void fragileDeepBelow() {
        CourierBags x = withBags(99);
        x.addItem(10, 1, 9, false);
        x.addItem(10, 1, 9, true);
        x.addItem(10, 4, 9, false);
        x.addItem(10, 4, 9, false);
        x.addItem(10, 1, 9, false);
        for (int id = 0; id < 4; id++) {
            is(id, x.pack(id, 0));
        }
        throwing(REFUSED, () -> x.pack(4, 0));
        is(CourierBags.TOO_FRAGILE, x.refusalReason());
    }

    private static void canPack() {
        promise = 6;
        CourierBags x = withBags(5, 20);
        x.addItem(10, 5, 5, false);
        x.addItem(10, 6, 5, false);
        is(true, x.canPack(0, 0));
        is(false, x.canPack(1, 0));
        is(true, x.canPack(1, 1));
        throwing(ELEMENT, x::refusalReason);
        x.pack(0, 0);
        is(false, x.canPack(0, 0));
        is(false, x.canPack(0, 1));
        for (int bag : NO_BAGS) {
            throwing(INDEX, () -> x.canPack(0, bag));
            throwing(ELEMENT, () -> x.canPack(2, bag));
        }
        throwing(ELEMENT, () -> x.canPack(-1, 0));
        is(false, x.isPacked(1));
        is(4, x.undo());
    }

    private static void unpack() {
        promise = 7;
        CourierBags x = withBags(99);
        x.addItem(8, 1, 5, false);
        x.addItem(3, 1, 5, false);
        x.addItem(3, 1, 4, false);
        x.addItem(3, 1, 5, false);
        for (int id = 0; id < 4; id++) {
            x.pack(id, 0);
        }
        x.addItem(1, 1, 1, false);
        throwing(ELEMENT, () -> x.unpack(5));
        throwing(ELEMENT, () -> x.unpack(-1));
        throwing(STATE, () -> x.unpack(4));
        throwing(STATE, () -> x.unpack(0));
        is(2, x.unpack(2));
        is("[1 3][0]", label(x, 0));
        is(3, x.itemAt(0, 1, 1));
        is(false, x.isPacked(2));
        throwing(STATE, () -> x.unpack(2));
        is(2, x.unpack(1));
        is(1, x.unpack(3));
        is(0, x.unpack(0));
        is(0, x.layerCount(0));
        is(5, x.depotCount());
        is(0, x.pack(2, 0));
    }

    private static void autoPack() {
        promise = 8;
        CourierBags x = withBags(20, 99);
        x.addItem(5, 3, 4, false);
        x.addItem(5, 9, 4, false);
        x.addItem(5, 3, 4, false);
        x.addItem(5, 20, 7, false);
        x.addItem(5, 1, 9, false);
        is(4, x.autoPack(0));
        is("[0 2][4 1]", label(x, 0));
        is(false, x.isPacked(3));
        throwing(ELEMENT, x::refusalReason);
        is(0, x.autoPack(0));
        is(1, x.autoPack(1));
        is("[3]", label(x, 1));
        is(0, x.autoPack(1));
        for (int bag : NO_BAGS) {
            throwing(INDEX, () -> x.autoPack(bag));
        }
        throwing(INDEX, () -> new CourierBags().autoPack(0));
        CourierBags empty = withBags(1);
        is(0, empty.autoPack(0));
        is(1, empty.undo());
    }

    private static void deliver() {
        promise = 9;
        CourierBags x = withBags(99, 99);
        throwing(STATE, x::deliver);
        run(x, "item 7 1 5;item 3 2 3;item 9 3 2;item 2 4 2;item 9 5 2");
        throwing(STATE, x::deliver);
        for (int id = 0; id < 3; id++) {
            x.pack(id, 0);
        }
        x.pack(3, 1);
        is("[2][0 1]", label(x, 0));
        is(2, x.deliver());
        is("[0 1]", label(x, 0));
        is("", label(x, 1));
        is(false, x.exists(2));
        is(false, x.exists(3));
        is(true, x.exists(4));
        is(1, x.deliver());
        is("[0]", label(x, 0));
        is(1, x.deliver());
        throwing(STATE, x::deliver);
        is(1, x.itemCount());
        layersMoveDown();
    }

    private static void layersMoveDown() {
        CourierBags x = withBags(99);
        run(x, "item 7 1 9;item 3 1 4;item 8 1 4;item 8 1 4;item 8 1 3");
        for (int id = 0; id < 5; id++) {
            x.pack(id, 0);
        }
        run(x, "item 2 2 3");
        is(3, x.pack(5, 0));
        is("[4 5][3][2][0 1]", label(x, 0));
        is(2, x.deliver());
        is("[3][2][0 1]", label(x, 0));
        is(3, x.deliver());
        is("[0]", label(x, 0));
        is(1, x.layerCount(0));
        CourierBags y = withBags(99);
        run(y, "item 8 1 9;item 2 1 9;item 9 1 9;item 5 1 9;item 5 1 2");
        run(y, "item 1 1 2");
        for (int id = 0; id < 6; id++) {
            y.pack(id, 0);
        }
        is("[5][3 4][2][0 1]", label(y, 0));
        is(2, y.deliver());
        is("[3][2][0 1]", label(y, 0));
        is(2, y.layerOf(3));
        is(2, y.unpack(3));
        CourierBags z = withBags(99);
        run(z, "item 1 1 2;item 2 1 9;item 3 1 2;item 4 1 9");
        z.autoPack(0);
        is("[1 3 0 2]", label(z, 0));
        z.deliver();
        is("[1 3]", label(z, 0));
        CourierBags front = withBags(99);
        run(front, "item 1 1 2;item 2 1 9;item 3 1 2;item 4 1 9");
        for (int id = 0; id < 4; id++) {
            front.pack(id, 0);
        }
        is("[0 1 2 3]", label(front, 0));
        is(2, front.deliver());
        is("[1 3]", label(front, 0));
        is(1, front.itemAt(0, 0, 0));
        throwing(ELEMENT, () -> front.itemAt(0, 0, 2));
    }

    private static void delivered() {
        promise = 10;
        CourierBags x = withBags(99, 99);
        throwing(ELEMENT, x::nextStop);
        x.addItem(1, 7, 30, false);
        x.addItem(1, 8, 2, false);
        x.addItem(1, 9, 2, false);
        x.addItem(1, 9, 1, false);
        throwing(ELEMENT, x::nextStop);
        x.pack(0, 0);
        is(30, x.nextStop());
        x.pack(1, 1);
        is(2, x.nextStop());
        x.pack(2, 0);
        promise = 11;
        is(0, x.deliveredCount());
        x.deliver();
        is(2, x.deliveredCount());
        promise = 12;
        is(17, x.deliveredWeight());
        is(30, x.nextStop());
        x.deliver();
        is(24, x.deliveredWeight());
        promise = 11;
        is(3, x.deliveredCount());
        x.undo();
        is(2, x.deliveredCount());
        promise = 12;
        is(17, x.deliveredWeight());
    }

    // ---- questions about items

    private static void counts() {
        CourierBags x = withBags(99);
        x.addItem(1, 1, 1, false);
        x.addItem(1, 1, 2, false);
        x.addItem(1, 1, 3, false);
        x.pack(1, 0);
        promise = 13;
        is(3, x.itemCount());
        promise = 14;
        is(2, x.depotCount());
        promise = 15;
        for (int id : new int[] {Integer.MIN_VALUE, -2, -1, 3, 12, Integer.MAX_VALUE}) {
            is(false, x.exists(id));
        }
        is(true, x.exists(0));
        is(true, x.exists(1));
        is(true, x.exists(2));
        x.deliver();
        is(false, x.exists(1));
        promise = 13;
        is(2, x.itemCount());
        promise = 14;
        is(2, x.depotCount());
    }

    private static void itemQuestions() {
        CourierBags x = withBags(99);
        x.addItem(3, 14, 25, true);
        x.addItem(10, 20, 30, false);
        x.addItem(1, 2, 3, true);
        x.pack(1, 0);
        x.removeItem(2);
        promise = 16;
        is(3, x.sizeOf(0));
        is(10, x.sizeOf(1));
        promise = 17;
        is(14, x.weightOf(0));
        is(20, x.weightOf(1));
        promise = 18;
        is(25, x.stopOf(0));
        is(30, x.stopOf(1));
        promise = 19;
        is(true, x.isFragile(0));
        is(false, x.isFragile(1));
        promise = 20;
        is(false, x.isPacked(0));
        is(true, x.isPacked(1));
        for (int id : new int[] {Integer.MIN_VALUE, -2, -1, 2, 3, Integer.MAX_VALUE}) {
            promise = 16;
            throwing(ELEMENT, () -> x.sizeOf(id));
            promise = 17;
            throwing(ELEMENT, () -> x.weightOf(id));
            promise = 18;
            throwing(ELEMENT, () -> x.stopOf(id));
            promise = 19;
            throwing(ELEMENT, () -> x.isFragile(id));
            promise = 20;
            throwing(ELEMENT, () -> x.isPacked(id));
        }
    }

    private static void places() {
        CourierBags x = withBags(99, 99);
        x.addItem(10, 1, 5, false);
        x.addItem(10, 1, 5, false);
        x.addItem(10, 1, 5, false);
        x.pack(1, 1);
        x.pack(0, 1);
        promise = 21;
        is(1, x.bagOf(0));
        is(1, x.bagOf(1));
        promise = 22;
        is(1, x.layerOf(0));
        is(0, x.layerOf(1));
        for (int id : new int[] {Integer.MIN_VALUE, -2, -1, 2, 3, Integer.MAX_VALUE}) {
            promise = 21;
            throwing(ELEMENT, () -> x.bagOf(id));
            promise = 22;
            throwing(ELEMENT, () -> x.layerOf(id));
        }
        x.unpack(0);
        promise = 21;
        throwing(ELEMENT, () -> x.bagOf(0));
        promise = 22;
        throwing(ELEMENT, () -> x.layerOf(0));
    }

    private static void ranks() {
        promise = 23;
        CourierBags x = withBags(99);
        x.addItem(1, 5, 3, false);
        x.addItem(1, 9, 3, false);
        x.addItem(9, 5, 3, true);
        x.addItem(1, 1, 8, false);
        x.addItem(1, 20, 1, false);
        x.pack(3, 0);
        int[] order = {3, 1, 0, 2, 4};
        for (int rank = 0; rank < order.length; rank++) {
            is(order[rank], x.itemAtRank(rank));
        }
        for (int rank : new int[] {-1, 5, Integer.MIN_VALUE, Integer.MAX_VALUE}) {
            throwing(INDEX, () -> x.itemAtRank(rank));
        }
        x.removeItem(1);
        is(0, x.itemAtRank(1));
        throwing(INDEX, () -> x.itemAtRank(4));
        is(5, x.addItem(1, 5, 3, false));
        is(0, x.itemAtRank(1));
        is(2, x.itemAtRank(2));
        is(5, x.itemAtRank(3));
    }

    // ---- questions about bags

    private static void bags() {
        promise = 24;
        CourierBags x = new CourierBags();
        is(0, x.bagCount());
        x.addBag(7);
        is(1, x.bagCount());
        x.addBag(99);
        is(2, x.bagCount());
        x.undo();
        is(1, x.bagCount());
        x.addBag(1);
        promise = 25;
        is(7, x.limitOf(0));
        is(1, x.limitOf(1));
        for (int bag : NO_BAGS) {
            throwing(INDEX, () -> x.limitOf(bag));
        }
    }

    private static void weights() {
        CourierBags x = withBags(99, 30);
        x.addItem(10, 10, 5, false);
        x.addItem(10, 7, 5, false);
        x.addItem(10, 1, 5, false);
        x.addItem(1, 20, 5, false);
        for (int id = 0; id < 3; id++) {
            x.pack(id, 0);
        }
        promise = 26;
        is(18, x.weightIn(0));
        is(0, x.weightIn(1));
        promise = 27;
        is(18, x.weightInByLayers(0));
        is(0, x.weightInByLayers(1));
        promise = 28;
        is(81, x.weightLeft(0));
        is(30, x.weightLeft(1));
        for (int bag : NO_BAGS) {
            promise = 26;
            throwing(INDEX, () -> x.weightIn(bag));
            promise = 27;
            throwing(INDEX, () -> x.weightInByLayers(bag));
            promise = 28;
            throwing(INDEX, () -> x.weightLeft(bag));
        }
        promise = 28;
        CourierBags full = withBags(20);
        full.addItem(1, 20, 1, false);
        full.pack(0, 0);
        is(0, full.weightLeft(0));
    }

    private static void layers() {
        CourierBags x = withBags(99, 30);
        x.addItem(4, 10, 5, false);
        x.addItem(6, 7, 5, false);
        x.addItem(3, 3, 5, false);
        x.addItem(10, 2, 5, false);
        for (int id = 0; id < 4; id++) {
            x.pack(id, 0);
        }
        promise = 29;
        is(3, x.layerCount(0));
        is(0, x.layerCount(1));
        promise = 30;
        is("2 1 1", x.itemsInLayer(0, 0) + " " + x.itemsInLayer(0, 1) + " " + x.itemsInLayer(0, 2));
        promise = 31;
        is("0 1 2 3", x.itemAt(0, 0, 0) + " " + x.itemAt(0, 0, 1) + " " + x.itemAt(0, 1, 0) + " " + x.itemAt(0, 2, 0));
        for (int position : new int[] {Integer.MIN_VALUE, -1, 2, Integer.MAX_VALUE}) {
            throwing(ELEMENT, () -> x.itemAt(0, 0, position));
        }
        throwing(ELEMENT, () -> x.itemAt(0, 1, 1));
        promise = 32;
        is("10 3 10", x.sizeUsed(0, 0) + " " + x.sizeUsed(0, 1) + " " + x.sizeUsed(0, 2));
        promise = 33;
        is("5 2 0", x.loadOf(0, 0) + " " + x.loadOf(0, 1) + " " + x.loadOf(0, 2));
        for (int layer : new int[] {Integer.MIN_VALUE, -1, 3, 5, Integer.MAX_VALUE}) {
            noLayer(x, 0, layer);
        }
        noLayer(x, 1, 0);
        for (int bag : NO_BAGS) {
            promise = 29;
            throwing(INDEX, () -> x.layerCount(bag));
            noLayer(x, bag, 0);
        }
    }

    private static void noLayer(CourierBags x, int bag, int layer) {
        promise = 30;
        throwing(INDEX, () -> x.itemsInLayer(bag, layer));
        promise = 31;
        throwing(INDEX, () -> x.itemAt(bag, layer, 0));
        throwing(INDEX, () -> x.itemAt(bag, layer, 99));
        promise = 32;
        throwing(INDEX, () -> x.sizeUsed(bag, layer));
        promise = 33;
        throwing(INDEX, () -> x.loadOf(bag, layer));
    }

    private static void bothBest(CourierBags x, int bag, int want) {
        promise = 34;
        is(want, x.bestLoad(bag));
        promise = 35;
        is(want, x.bestLoadByTable(bag));
    }

    private static void bestLoads() {
        CourierBags x = withBags(10, 99);
        bothBest(x, 0, 0);
        x.addItem(6, 6, 1, false);
        x.addItem(5, 5, 9, true);
        x.addItem(5, 5, 30, true);
        bothBest(x, 0, 10);
        bothBest(x, 1, 16);
        x.addItem(10, 11, 1, false);
        bothBest(x, 0, 10);
        x.pack(1, 0);
        bothBest(x, 0, 5);
        bothBest(x, 1, 21);
        x.pack(2, 0);
        bothBest(x, 0, 0);
        for (int bag : NO_BAGS) {
            promise = 34;
            throwing(INDEX, () -> x.bestLoad(bag));
            promise = 35;
            throwing(INDEX, () -> x.bestLoadByTable(bag));
        }
        CourierBags heavy = withBags(1);
        heavy.addItem(10, 2, 1, false);
        bothBest(heavy, 0, 0);
        heavy.addItem(1, 1, 1, false);
        bothBest(heavy, 0, 1);
        CourierBags many = withBags(99);
        for (int id = 0; id < 12; id++) {
            many.addItem(10, 8, 1, false);
        }
        bothBest(many, 0, 120);
        many.removeItem(11);
        many.addItem(10, 12, 1, false);
        bothBest(many, 0, 110);
    }

    private static void emptiestBag() {
        promise = 36;
        throwing(ELEMENT, () -> new CourierBags().emptiestBag());
        CourierBags x = withBags(10, 12, 12);
        is(1, x.emptiestBag());
        x.addItem(1, 1, 1, false);
        x.addItem(1, 1, 1, false);
        x.pack(0, 1);
        is(2, x.emptiestBag());
        x.pack(1, 2);
        is(1, x.emptiestBag());
        is(0, withBags(3).emptiestBag());
        is(0, withBags(5, 5, 5).emptiestBag());
    }

    private static void shareUsed() {
        promise = 37;
        throwing(ARITHMETIC, () -> new CourierBags().shareUsed());
        CourierBags x = withBags(10, 20);
        is(0.0, x.shareUsed());
        x.addItem(1, 7, 1, false);
        x.addItem(1, 20, 1, false);
        x.pack(0, 0);
        is(7.0 / 30.0, x.shareUsed());
        x.pack(1, 1);
        is(27.0 / 30.0, x.shareUsed());
        x.addBag(99);
        is(27.0 / 129.0, x.shareUsed());
        CourierBags full = withBags(4);
        full.addItem(1, 4, 1, false);
        full.pack(0, 0);
        is(1.0, full.shareUsed());
    }

    private static void consistency() {
        promise = 38;
        CourierBags x = new CourierBags();
        is(true, x.isConsistent());
        run(x, "bag 9;bag 99;item 9 9 9!;item 9 8 9;item 1 20 2;item 9 1 3");
        x.autoPack(0);
        is(true, x.isConsistent());
        x.autoPack(1);
        is(true, x.isConsistent());
        x.deliver();
        is(true, x.isConsistent());
    }

    private static void refusals() {
        promise = 39;
        CourierBags x = withBags(5);
        throwing(ELEMENT, x::refusalReason);
        promise = 40;
        throwing(ELEMENT, x::refusedItem);
        x.addItem(1, 6, 1, false);
        x.addItem(10, 1, 1, false);
        x.addItem(10, 1, 2, false);
        throwing(REFUSED, () -> x.pack(0, 0));
        promise = 39;
        is(CourierBags.TOO_HEAVY, x.refusalReason());
        promise = 40;
        is(0, x.refusedItem());
        x.pack(1, 0);
        throwing(REFUSED, () -> x.pack(2, 0));
        promise = 39;
        is(CourierBags.WRONG_ORDER, x.refusalReason());
        promise = 40;
        is(2, x.refusedItem());
        x.removeItem(2);
        is(2, x.refusedItem());
        throwing(STATE, () -> x.pack(1, 0));
        throwing(ELEMENT, () -> x.pack(2, 0));
        x.autoPack(0);
        is(2, x.refusedItem());
        x.undo();
        x.save();
        x.restore();
        is(2, x.refusedItem());
        promise = 39;
        is(CourierBags.WRONG_ORDER, x.refusalReason());
    }

    // ---- label and commands

    private static void labels() {
        promise = 41;
        CourierBags x = withBags(99, 99);
        is(0, x.writeLabel(0));
        run(x, "item 4 1 9;item 7 1 5;item 2 1 5!;item 1 1 5");
        x.pack(0, 0);
        x.pack(1, 0);
        x.pack(3, 0);
        x.pack(2, 0);
        is("[1 3 2!][0]", label(x, 0));
        run(x, "unpack 1;pack 1 0");
        is("[3 2! 1][0]", label(x, 0));
        is(11, x.writeLabel(0));
        promise = 42;
        is('[', x.labelAt(0));
        is(']', x.labelAt(10));
        for (int index : new int[] {Integer.MIN_VALUE, -1, 11, Integer.MAX_VALUE}) {
            throwing(INDEX, () -> x.labelAt(index));
        }
        promise = 41;
        for (int bag : NO_BAGS) {
            throwing(INDEX, () -> x.writeLabel(bag));
        }
        is('!', x.labelAt(4));
        x.deliver();
        is('!', x.labelAt(4));
        x.undo();
        is('!', x.labelAt(4));
        is(0, x.writeLabel(1));
        promise = 42;
        throwing(INDEX, () -> x.labelAt(0));
        promise = 41;
        longLabel();
    }

    private static void longLabel() {
        CourierBags x = withBags(99);
        for (int id = 0; id < 12; id++) {
            x.addItem(1, 1, 1, id % 2 == 1);
        }
        for (int id = 0; id < 11; id++) {
            x.removeItem(id);
            x.addItem(2, 1, 1, id % 2 == 0);
        }
        for (int id = 11; id < 23; id++) {
            x.pack(id, 0);
        }
        is("[21 22!][16! 17 18! 19 20!][11! 12! 13 14! 15]", label(x, 0));
    }

    private static void typing() {
        promise = 43;
        CourierBags x = new CourierBags();
        for (int code : new int[] {0, 31, 127, 160, 65535}) {
            throwing(ARGUMENT, () -> x.type((char) code));
        }
        is(1, x.type(' '));
        is(2, x.type('~'));
        for (int count = 3; count <= 60; count++) {
            is(count, x.type('a'));
        }
        throwing(STATE, () -> x.type('a'));
        throwing(ARGUMENT, () -> x.type((char) 31));
        throwing(ARGUMENT, () -> x.type((char) 127));
        throwing(ARGUMENT, x::execute);
        is(1, x.type('b'));
    }

    private static void executing() {
        promise = 44;
        CourierBags x = new CourierBags();
        is(1, run(x, "bag 05"));
        is(5, x.limitOf(0));
        is(3, run(x, "bag 99;item 10 20 30!;item 1 2 3"));
        is("10 20 30 true", x.sizeOf(0) + " " + x.weightOf(0) + " " + x.stopOf(0) + " " + x.isFragile(0));
        is("1 2 3 false", x.sizeOf(1) + " " + x.weightOf(1) + " " + x.stopOf(1) + " " + x.isFragile(1));
        is(2, run(x, "pack 1 0;pack 00 1"));
        is("[1][0!]", label(x, 0) + label(x, 1));
        is(2, run(x, "unpack 1;drop 01"));
        is(1, x.itemCount());
        is(1, run(x, "deliver"));
        is(1, x.deliveredCount());
        is(2, run(x, "item 1 1 1;fill 1"));
        is(true, x.isPacked(2));
        is(6, run(new CourierBags(), "bag 1;bag 2;bag 3;item 1 1 1;fill 0;deliver"));
        is(8, run(x, "fill 0;fill 0;fill 0;fill 0;fill 0;fill 0;fill 0;deliver"));
        is(8, run(x, "bag 1;item 1 1 1;drop 3;fill 0;fill 1;fill 2;fill 0;fill 1"));
        throwing(ARGUMENT, () -> run(x, ""));
        allOrNothing();
    }

    private static void allOrNothing() {
        String[] failing = {"bag 5;bag 0", "bag 5;bag 6;bag 7", "item 1 1 1;item 11 1 1", "item 1 21 1", "item 1 1 31",
            "item 0 1 1", "item 1 1 1;drop 2", "item 1 1 1;drop 0", "item 1 1 1;pack 1 1", "item 1 1 1;pack 2 0",
            "unpack 0;pack 0 0;pack 0 0", "item 1 10 1;pack 1 0", "unpack 0;unpack 0", "unpack 9", "fill 0;fill 1",
            "deliver;deliver", "bag 3;item 2 2 2;fill 1;deliver;deliver;fill 9"};
        for (String text : failing) {
            CourierBags y = withOnePacked();
            String before = stateOf(y);
            throwing(STATE, () -> run(y, text));
            is(before, stateOf(y));
            is(1, y.type('z'));
            throwing(ARGUMENT, y::execute);
            is(1, y.addItem(1, 1, 1, false));
            is(3, y.undo());
        }
        CourierBags x = withOnePacked();
        throwing(ARGUMENT, () -> run(x, "bag 5;bag"));
        is(1, x.bagCount());
        is(2, x.undo());
    }

    private static CourierBags withOnePacked() {
        CourierBags x = withBags(10);
        x.addItem(1, 1, 1, false);
        x.pack(0, 0);
        return x;
    }

    private static void errorPositions() {
        promise = 45;
        CourierBags x = withBags(99);
        throwing(ELEMENT, x::errorPosition);
        run(x, "item 1 1 1");
        throwing(ELEMENT, x::errorPosition);
        Object[][] malformed = {{"", 0}, {"x", 0}, {" bag 1", 0}, {";", 0}, {"b", 1}, {"bag", 3}, {"bag ", 4},
            {"bag;", 3}, {"bag x", 4}, {"bag  1", 4}, {"bag 123", 6}, {"bag 1 ", 5}, {"bag 12 ", 6}, {"bag 1;", 6},
            {"bag 1;;", 6}, {"bag 1; ", 6}, {"Bag 1", 0}, {"bag -1", 4}, {"item", 4}, {"item 1", 6}, {"item 1 ", 7},
            {"item 1 1", 8}, {"item 1 1;", 8}, {"item 1!", 6}, {"item 1 1 1!!", 11}, {"item 1 1 1 ", 10},
            {"item 1 1 123", 11}, {"item 1 1 12!;", 13}, {"d", 1}, {"dx", 1}, {"dr", 2}, {"de", 2}, {"drx", 2},
            {"dex", 2}, {"drop 1!", 6}, {"delivery", 7}, {"deliver ", 7}, {"deliver;x", 8}, {"pack 1", 6},
            {"pack 1 ", 7}, {"pack 1 12", 8}, {"pack 12 1;p", 11}, {"pack 1  1", 7}, {"pack 123 1", 7},
            {"unpack 1 1", 8}, {"unp", 3}, {"unpack 123", 9}, {"fill 12", 6}, {"fill", 4}, {"fill a", 5}, {"fil1", 3},
            {"bag 1;bag 2;bag 3;bag 4;baq 5", 26}};
        for (Object[] row : malformed) {
            throwing(ARGUMENT, () -> run(x, (String) row[0]));
            is(row[0] + " " + row[1], row[0] + " " + x.errorPosition());
        }
        throwing(STATE, () -> run(x, "bag 0"));
        is(26, x.errorPosition());
        x.undo();
        is(26, x.errorPosition());
        is(1, x.bagCount());
    }

    private static void failedCommands() {
        promise = 46;
        CourierBags x = withBags(5);
        throwing(ELEMENT, x::failedCommand);
        throwing(ARGUMENT, () -> run(x, "bag"));
        throwing(ELEMENT, x::failedCommand);
        throwing(STATE, () -> run(x, "bag 1;bag 2;bag 3;bag 4"));
        is(2, x.failedCommand());
        throwing(ELEMENT, x::refusalReason);
        throwing(STATE, () -> run(x, "item 1 6 1;pack 0 0;bag 5"));
        is(1, x.failedCommand());
        is(CourierBags.TOO_HEAVY, x.refusalReason());
        is(0, x.refusedItem());
        is(false, x.exists(0));
        throwing(STATE, () -> run(x, "deliver"));
        is(0, x.failedCommand());
        is(0, x.refusedItem());
        throwing(ARGUMENT, () -> run(x, "bag 1;bag 2;x"));
        is(0, x.failedCommand());
        is(1, run(x, "bag 4"));
        is(0, x.failedCommand());
        throwing(STATE, () -> run(x, "item 1 5 1;item 1 1 9;pack 0 0;pack 1 0"));
        is(3, x.failedCommand());
        is(1, x.refusedItem());
        x.undo();
        is(3, x.failedCommand());
    }

    // ---- undo and snapshots

    private static void undoing() {
        promise = 47;
        CourierBags x = new CourierBags();
        throwing(STATE, x::undo);
        String[] states = new String[9];
        states[0] = stateOf(x);
        x.addBag(50);
        states[1] = stateOf(x);
        x.addItem(5, 5, 5, true);
        states[2] = stateOf(x);
        x.addItem(6, 6, 6, false);
        states[3] = stateOf(x);
        x.pack(0, 0);
        states[4] = stateOf(x);
        x.unpack(0);
        states[5] = stateOf(x);
        x.removeItem(0);
        states[6] = stateOf(x);
        x.autoPack(0);
        states[7] = stateOf(x);
        x.deliver();
        states[8] = stateOf(x);
        for (int left = 7; left >= 0; left--) {
            is(left, x.undo());
            is(states[left], stateOf(x));
        }
        throwing(STATE, x::undo);
        onlyTheLastEight();
        is(0, x.addBag(5));
        is(0, x.addItem(1, 1, 1, false));
        is(1, x.undo());
        is(0, x.addItem(2, 2, 2, false));
        run(x, "fill 0;deliver;bag 9");
        is(2, x.undo());
        is(true, x.exists(0));
        is(0, x.deliveredCount());
        is(1, x.bagCount());
    }

    private static void onlyTheLastEight() {
        CourierBags x = new CourierBags();
        for (int id = 0; id < 12; id++) {
            x.addItem(1, 1, 1, false);
        }
        throwing(STATE, () -> x.addItem(1, 1, 1, false));
        for (int left = 7; left >= 0; left--) {
            is(left, x.undo());
            is(left + 4, x.itemCount());
        }
        throwing(STATE, x::undo);
        is(4, x.itemCount());
        is(4, x.addItem(1, 1, 1, false));
        for (int count = 0; count < 3; count++) {
            x.addItem(1, 1, 1, false);
            is(1, x.undo());
        }
        is(0, x.undo());
    }

    private static void undoAndWhatItLeaves() {
        CourierBags x = withBags(5);
        x.addItem(1, 6, 1, false);
        throwing(REFUSED, () -> x.pack(0, 0));
        throwing(ARGUMENT, () -> run(x, "bag"));
        throwing(STATE, () -> run(x, "drop 9"));
        x.addItem(1, 1, 1, true);
        x.pack(1, 0);
        x.writeLabel(0);
        write(x, "bag ");
        is(3, x.undo());
        is(2, x.undo());
        is(5, x.type('9'));
        is('1', x.labelAt(1));
        is(3, x.errorPosition());
        is(0, x.failedCommand());
        is(0, x.refusedItem());
        is(1, x.execute());
        is(9, x.limitOf(1));
        is(2, x.undo());
        is(1, x.save());
        is(1, x.undo());
        is(1, x.restore());
        throwing(STATE, x::undo);
    }

    private static void snapshots() {
        promise = 48;
        CourierBags x = withBags(9);
        throwing(STATE, x::restore);
        x.addItem(1, 1, 1, false);
        x.addItem(2, 2, 2, true);
        x.pack(1, 0);
        is(2, x.save());
        String saved = stateOf(x);
        is(3, x.undo());
        promise = 49;
        is(2, x.restore());
        is(saved, stateOf(x));
        throwing(STATE, x::undo);
        is(0, x.pack(0, 0));
        x.deliver();
        x.deliver();
        x.addBag(7);
        is(2, x.addItem(1, 1, 1, false));
        is(2, x.restore());
        is(saved, stateOf(x));
        throwing(STATE, x::undo);
        is(2, x.addItem(1, 1, 1, false));
        is(0, x.undo());
        throwing(STATE, x::undo);
        promise = 48;
        x.removeItem(0);
        is(1, x.save());
        x.addItem(1, 1, 1, false);
        is(1, x.undo());
        promise = 49;
        is(1, x.restore());
        is(false, x.exists(0));
        snapshotsAndCommands();
    }

    private static void snapshotsAndCommands() {
        CourierBags x = withBags(9);
        is(0, x.save());
        run(x, "item 1 9 1;fill 0");
        throwing(STATE, () -> run(x, "item 1 1 1;pack 1 0"));
        throwing(ARGUMENT, () -> run(x, "fill"));
        x.writeLabel(0);
        write(x, "bag ");
        is(0, x.restore());
        is(0, x.itemCount());
        is('0', x.labelAt(1));
        is(1, x.failedCommand());
        is(4, x.errorPosition());
        is(1, x.refusedItem());
        is(5, x.type('8'));
        is(1, x.execute());
        is(8, x.limitOf(1));
        is(0, x.addItem(1, 1, 1, false));
        is(0, x.restore());
        is(1, x.bagCount());
    }
}
