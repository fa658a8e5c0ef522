import java.util.ArrayDeque;
import java.util.ArrayList;
import java.util.Comparator;
import java.util.Deque;
import java.util.List;
import java.util.NoSuchElementException;
import java.util.Random;
import java.util.function.Supplier;
import java.util.regex.Matcher;
import java.util.regex.Pattern;
import java.util.stream.Collectors;

/**
 * Runs of 512 random calls (with fixed seeds) on an object and on a plain model of the document that holds its state
 * in another way: lists of layers, copied whole before each modification, and the grammar as a regular expression.
 */
public final class CourierBagsModelTest {
    private static final int RUNS = 1500;
    private static final int CALLS = 512;

    private static final class Item {
        int id;
        int size;
        int weight;
        int stop;
        boolean fragile;
    }

    private static final class Bag {
        int limit;
        List<List<Item>> layers = new ArrayList<>();

        int weight() {
            return layers.stream().flatMap(List::stream).mapToInt(i -> i.weight).sum();
        }
    }

    private static final class State {
        List<Item> depot = new ArrayList<>();
        List<Bag> bags = new ArrayList<>();
        int nextId;
        int deliveredCount;
        int deliveredWeight;

        State copy() {
            State copy = new State();
            copy.depot.addAll(depot);
            for (Bag bag : bags) {
                Bag twin = new Bag();
                twin.limit = bag.limit;
                bag.layers.forEach(layer -> twin.layers.add(new ArrayList<>(layer)));
                copy.bags.add(twin);
            }
            copy.nextId = nextId;
            copy.deliveredCount = deliveredCount;
            copy.deliveredWeight = deliveredWeight;
            return copy;
        }
    }

    private static final class Model {
        private static final Comparator<Item> RANKING = Comparator.<Item>comparingInt(i -> -i.stop)
                .thenComparingInt(i -> -i.weight).thenComparingInt(i -> i.id);
        private static final String COMMAND = "(?:bag \\d\\d?|item \\d\\d? \\d\\d? \\d\\d?!?|drop \\d\\d?"
                + "|pack \\d\\d? \\d|unpack \\d\\d?|fill \\d|deliver)";
        private static final Pattern PROGRAM = Pattern.compile(COMMAND + "(?:;" + COMMAND + ")*");

        State state = new State();
        State saved;
        Deque<State> past = new ArrayDeque<>();
        boolean inProgram;
        int reason;
        int refused;
        Integer errorPosition;
        Integer failedCommand;
        String label = "";
        String buffer = "";

        // ---- parts

        List<Item> packed() {
            return state.bags.stream().flatMap(b -> b.layers.stream()).flatMap(List::stream)
                    .collect(Collectors.toList());
        }

        List<Item> all() {
            List<Item> all = new ArrayList<>(state.depot);
            all.addAll(packed());
            all.sort(RANKING);
            return all;
        }

        Item item(int id) {
            return all().stream().filter(i -> i.id == id).findFirst().orElseThrow(NoSuchElementException::new);
        }

        Bag bag(int bag) {
            if (bag < 0 || bag >= state.bags.size()) {
                throw new IndexOutOfBoundsException();
            }
            return state.bags.get(bag);
        }

        List<Item> layer(int bag, int layer) {
            if (layer < 0 || layer >= bag(bag).layers.size()) {
                throw new IndexOutOfBoundsException();
            }
            return bag(bag).layers.get(layer);
        }

        static int sizes(List<Item> items) {
            return items.stream().mapToInt(i -> i.size).sum();
        }

        static int weights(List<Item> items) {
            return items.stream().mapToInt(i -> i.weight).sum();
        }

        int loadOf(int bag, int layer) {
            layer(bag, layer);
            int load = 0;
            for (int above = layer + 1; above < bag(bag).layers.size(); above++) {
                load += weights(layer(bag, above));
            }
            return load;
        }

        void remember(State before) {
            if (!inProgram) {
                past.addLast(before);
                if (past.size() > 8) {
                    past.removeFirst();
                }
            }
        }

        // ---- modifications

        int addBag(int limit) {
            if (limit < 1 || limit > 99) {
                throw new IllegalArgumentException();
            }
            if (state.bags.size() == 3) {
                throw new IllegalStateException();
            }
            remember(state.copy());
            Bag bag = new Bag();
            bag.limit = limit;
            state.bags.add(bag);
            return state.bags.size() - 1;
        }

        int addItem(int size, int weight, int stop, boolean fragile) {
            if (size < 1 || size > 10 || weight < 1 || weight > 20 || stop < 1 || stop > 30) {
                throw new IllegalArgumentException();
            }
            if (all().size() == 12) {
                throw new IllegalStateException();
            }
            remember(state.copy());
            Item item = new Item();
            item.id = state.nextId++;
            item.size = size;
            item.weight = weight;
            item.stop = stop;
            item.fragile = fragile;
            state.depot.add(item);
            return item.id;
        }

        int removeItem(int id) {
            Item item = item(id);
            if (!state.depot.contains(item)) {
                throw new IllegalStateException();
            }
            remember(state.copy());
            state.depot.remove(item);
            return all().size();
        }

        /** The layers as they would be, or the reason why not. */
        Object trial(Item item, Bag bag) {
            List<List<Item>> layers = new ArrayList<>();
            bag.layers.forEach(layer -> layers.add(new ArrayList<>(layer)));
            if (layers.isEmpty() || sizes(layers.get(layers.size() - 1)) + item.size > 10) {
                layers.add(new ArrayList<>());
            }
            layers.get(layers.size() - 1).add(item);
            if (bag.weight() + item.weight > bag.limit) {
                return 1;
            }
            if (layers.size() > 5) {
                return 2;
            }
            int above = 0;
            boolean crushed = false;
            for (int layer = layers.size() - 1; layer >= 0; layer--) {
                if (layer < layers.size() - 1 && layers.get(layer).stream().anyMatch(i -> i.stop < item.stop)) {
                    return 3;
                }
                crushed |= above > 8 && layers.get(layer).stream().anyMatch(i -> i.fragile);
                above += weights(layers.get(layer));
            }
            return crushed ? (Object) 4 : layers;
        }

        @SuppressWarnings("unchecked")
        boolean tryToPack(Item item, Bag bag) {
            Object trial = trial(item, bag);
            if (trial instanceof Integer) {
                return false;
            }
            bag.layers = (List<List<Item>>) trial;
            state.depot.remove(item);
            return true;
        }

        int pack(int id, int number) {
            Item item = item(id);
            Bag bag = bag(number);
            if (!state.depot.contains(item)) {
                throw new IllegalStateException();
            }
            Object trial = trial(item, bag);
            if (trial instanceof Integer) {
                reason = (Integer) trial;
                refused = id;
                throw new UnsupportedOperationException();
            }
            remember(state.copy());
            tryToPack(item, bag);
            return bag.layers.size() - 1;
        }

        boolean canPack(int id, int number) {
            Item item = item(id);
            Bag bag = bag(number);
            return state.depot.contains(item) && !(trial(item, bag) instanceof Integer);
        }

        int bagOf(int id) {
            Item item = item(id);
            for (int bag = 0; bag < state.bags.size(); bag++) {
                if (bag(bag).layers.stream().anyMatch(layer -> layer.contains(item))) {
                    return bag;
                }
            }
            throw new NoSuchElementException();
        }

        int layerOf(int id) {
            Bag bag = bag(bagOf(id));
            int layer = 0;
            while (!bag.layers.get(layer).contains(item(id))) {
                layer++;
            }
            return layer;
        }

        int unpack(int id) {
            Item item = item(id);
            if (state.depot.contains(item) || layerOf(id) < bag(bagOf(id)).layers.size() - 1) {
                throw new IllegalStateException();
            }
            remember(state.copy());
            Bag bag = bag(bagOf(id));
            bag.layers.get(bag.layers.size() - 1).remove(item);
            bag.layers.removeIf(List::isEmpty);
            state.depot.add(item);
            return bag.layers.size();
        }

        int autoPack(int number) {
            Bag bag = bag(number);
            remember(state.copy());
            int count = 0;
            List<Item> waiting = new ArrayList<>(state.depot);
            waiting.sort(RANKING);
            for (Item item : waiting) {
                count += tryToPack(item, bag) ? 1 : 0;
            }
            return count;
        }

        int nextStop() {
            return packed().stream().mapToInt(i -> i.stop).min().orElseThrow(NoSuchElementException::new);
        }

        int deliver() {
            if (packed().isEmpty()) {
                throw new IllegalStateException();
            }
            remember(state.copy());
            int stop = nextStop();
            List<Item> gone = packed();
            gone.removeIf(i -> i.stop != stop);
            for (Bag bag : state.bags) {
                bag.layers.forEach(layer -> layer.removeAll(gone));
                bag.layers.removeIf(List::isEmpty);
            }
            state.deliveredCount += gone.size();
            state.deliveredWeight += weights(gone);
            return gone.size();
        }

        // ---- the rest

        int bestLoad(int bag) {
            int left = bag(bag).limit - bag(bag).weight();
            int best = 0;
            for (int set = 0; set < 1 << state.depot.size(); set++) {
                int size = 0;
                int weight = 0;
                for (int i = 0; i < state.depot.size(); i++) {
                    size += (set >> i & 1) * state.depot.get(i).size;
                    weight += (set >> i & 1) * state.depot.get(i).weight;
                }
                best = weight <= left ? Math.max(best, size) : best;
            }
            return best;
        }

        int emptiestBag() {
            if (state.bags.isEmpty()) {
                throw new NoSuchElementException();
            }
            return state.bags.indexOf(state.bags.stream()
                    .max(Comparator.<Bag>comparingInt(b -> b.limit - b.weight())
                            .thenComparingInt(b -> -state.bags.indexOf(b))).get());
        }

        double shareUsed() {
            if (state.bags.isEmpty()) {
                throw new ArithmeticException();
            }
            return (double) weights(packed()) / (double) state.bags.stream().mapToInt(b -> b.limit).sum();
        }

        int refusalReason() {
            if (reason == 0) {
                throw new NoSuchElementException();
            }
            return reason;
        }

        int refusedItem() {
            refusalReason();
            return refused;
        }

        int writeLabel(int number) {
            StringBuilder text = new StringBuilder();
            for (List<Item> layer : bag(number).layers) {
                text.insert(0, layer.stream().map(i -> i.id + (i.fragile ? "!" : ""))
                        .collect(Collectors.joining(" ", "[", "]")));
            }
            label = text.toString();
            return label.length();
        }

        char labelAt(int index) {
            if (index < 0 || index >= label.length()) {
                throw new IndexOutOfBoundsException();
            }
            return label.charAt(index);
        }

        int type(char character) {
            if (character < 32 || character > 126) {
                throw new IllegalArgumentException();
            }
            if (buffer.length() == 60) {
                throw new IllegalStateException();
            }
            buffer += character;
            return buffer.length();
        }

        int execute() {
            String text = buffer;
            buffer = "";
            if (!PROGRAM.matcher(text).matches()) {
                errorPosition = firstBad(text);
                throw new IllegalArgumentException();
            }
            State before = state;
            state = before.copy();
            String[] commands = text.split(";");
            inProgram = true;
            for (int index = 0; index < commands.length; index++) {
                try {
                    command(commands[index]);
                } catch (RuntimeException e) {
                    inProgram = false;
                    failedCommand = index;
                    state = before;
                    throw new IllegalStateException();
                }
            }
            inProgram = false;
            remember(before);
            return commands.length;
        }

        static int firstBad(String text) {
            for (int end = 1; end <= text.length(); end++) {
                Matcher matcher = PROGRAM.matcher(text.substring(0, end));
                if (!matcher.matches() && !matcher.hitEnd()) {
                    return end - 1;
                }
            }
            return text.length();
        }

        void command(String text) {
            String[] words = text.replace("!", " !").split(" ");
            int[] n = new int[4];
            for (int i = 1; i < words.length && i < 4; i++) {
                n[i] = Integer.parseInt(words[i]);
            }
            switch (words[0]) {
                case "bag" -> addBag(n[1]);
                case "item" -> addItem(n[1], n[2], n[3], words.length == 5);
                case "drop" -> removeItem(n[1]);
                case "pack" -> pack(n[1], n[2]);
                case "unpack" -> unpack(n[1]);
                case "fill" -> autoPack(n[1]);
                default -> deliver();
            }
        }

        int stored(Integer number) {
            if (number == null) {
                throw new NoSuchElementException();
            }
            return number;
        }

        int undo() {
            if (past.isEmpty()) {
                throw new IllegalStateException();
            }
            state = past.removeLast();
            return past.size();
        }

        int save() {
            saved = state.copy();
            return all().size();
        }

        int restore() {
            if (saved == null) {
                throw new IllegalStateException();
            }
            state = saved.copy();
            past.clear();
            return all().size();
        }

        int itemAtRank(int rank) {
            if (rank < 0 || rank >= all().size()) {
                throw new IndexOutOfBoundsException();
            }
            return all().get(rank).id;
        }

        int itemAt(int bag, int layer, int position) {
            List<Item> items = layer(bag, layer);
            if (position < 0 || position >= items.size()) {
                throw new NoSuchElementException();
            }
            return items.get(position).id;
        }
    }

    // ---- the runs

    private static Random random;
    private static CourierBags x;
    private static Model m;
    private static final List<String> calls = new ArrayList<>();

    public static void main(String[] args) {
        for (int seed = 0; seed < RUNS; seed++) {
            random = new Random(seed);
            x = new CourierBags();
            m = new Model();
            calls.clear();
            int style = seed % 4;
            for (int call = 0; call < CALLS; ) {
                call += style == 3 && random.nextInt(4) != 0 ? typedProgram() : oneCall(style);
            }
        }
        System.out.println(RUNS + " runs of " + CALLS + " calls agree with the model");
    }

    private static String answer(Supplier<?> call) {
        try {
            return String.valueOf(call.get());
        } catch (RuntimeException e) {
            return e.getClass().getName();
        }
    }

    private static int same(String call, Supplier<?> real, Supplier<?> model) {
        if (calls.size() >= CALLS) {
            // What an object answers behind its last call is free.
            return 1;
        }
        String want = answer(model);
        String got = answer(real);
        calls.add(call + " -> " + got);
        if (!want.equals(got)) {
            calls.forEach(System.out::println);
            System.out.println("the last call: due is " + want);
            System.exit(1);
        }
        return 1;
    }

    private static int around(int low, int high) {
        int dice = random.nextInt(60);
        if (dice == 0) {
            return low - 1;
        }
        if (dice == 1) {
            return high + 1;
        }
        if (dice == 2) {
            return random.nextInt();
        }
        return low + random.nextInt(high - low + 1);
    }

    private static int someId() {
        List<Item> all = m.all();
        return all.isEmpty() || random.nextInt(12) == 0 ? around(0, m.state.nextId)
                : all.get(random.nextInt(all.size())).id;
    }

    private static int someBag() {
        return around(0, Math.max(0, m.state.bags.size() - 1));
    }

    private static int someWeight(int style) {
        return style == 0 ? around(1, 20) : around(1, 4);
    }

    private static int someSize(int style) {
        return style == 2 ? around(7, 10) : around(1, 10);
    }

    private static int oneCall(int style) {
        return random.nextInt(3) == 0 ? question() : modification(style);
    }

    private static int modification(int style) {
        int id = someId();
        int bag = someBag();
        int dice = random.nextInt(30);
        if (dice == 0) {
            int limit = around(1, 99);
            return same("addBag(" + limit + ")", () -> x.addBag(limit), () -> m.addBag(limit));
        }
        if (dice < 8) {
            int size = someSize(style);
            int weight = someWeight(style);
            int stop = random.nextBoolean() ? around(1, 30) : around(1, 4);
            boolean fragile = random.nextInt(4) == 0;
            return same("addItem(" + size + ", " + weight + ", " + stop + ", " + fragile + ")",
                    () -> x.addItem(size, weight, stop, fragile), () -> m.addItem(size, weight, stop, fragile));
        }
        if (dice == 8) {
            return same("removeItem(" + id + ")", () -> x.removeItem(id), () -> m.removeItem(id));
        }
        if (dice < 20) {
            same("canPack(" + id + ", " + bag + ")", () -> x.canPack(id, bag), () -> m.canPack(id, bag));
            same("pack(" + id + ", " + bag + ")", () -> x.pack(id, bag), () -> m.pack(id, bag));
            return 2 + same("refusalReason()", () -> x.refusalReason(), () -> m.refusalReason());
        }
        if (dice < 22) {
            return same("unpack(" + id + ")", () -> x.unpack(id), () -> m.unpack(id));
        }
        if (dice == 22) {
            return same("autoPack(" + bag + ")", () -> x.autoPack(bag), () -> m.autoPack(bag));
        }
        if (dice < 25) {
            return same("deliver()", () -> x.deliver(), () -> m.deliver());
        }
        if (dice < 27) {
            return same("undo()", () -> x.undo(), () -> m.undo());
        }
        if (dice == 27) {
            return same("save()", () -> x.save(), () -> m.save());
        }
        if (dice == 28 && random.nextInt(3) == 0) {
            return same("restore()", () -> x.restore(), () -> m.restore());
        }
        return readLabel(bag);
    }

    private static int readLabel(int bag) {
        int count = same("writeLabel(" + bag + ")", () -> x.writeLabel(bag), () -> m.writeLabel(bag));
        for (int index = -1; index <= m.label.length(); index++) {
            int at = index;
            count += same("labelAt(" + at + ")", () -> x.labelAt(at), () -> m.labelAt(at));
        }
        return count;
    }

    private static int question() {
        int id = someId();
        int bag = someBag();
        int layer = around(0, 3);
        int position = around(0, 2);
        int rank = around(0, Math.max(0, m.all().size() - 1));
        String two = "(" + bag + ", " + layer + ")";
        switch (random.nextInt(32)) {
            case 0: return same("nextStop()", () -> x.nextStop(), () -> m.nextStop());
            case 1: return same("deliveredCount()", () -> x.deliveredCount(), () -> m.state.deliveredCount);
            case 2: return same("deliveredWeight()", () -> x.deliveredWeight(), () -> m.state.deliveredWeight);
            case 3: return same("itemCount()", () -> x.itemCount(), () -> m.all().size());
            case 4: return same("depotCount()", () -> x.depotCount(), () -> m.state.depot.size());
            case 5: return same("exists(" + id + ")", () -> x.exists(id),
                    () -> m.all().stream().anyMatch(i -> i.id == id));
            case 6: return same("sizeOf(" + id + ")", () -> x.sizeOf(id), () -> m.item(id).size);
            case 7: return same("weightOf(" + id + ")", () -> x.weightOf(id), () -> m.item(id).weight);
            case 8: return same("stopOf(" + id + ")", () -> x.stopOf(id), () -> m.item(id).stop);
            case 9: return same("isFragile(" + id + ")", () -> x.isFragile(id), () -> m.item(id).fragile);
            case 10: return same("isPacked(" + id + ")", () -> x.isPacked(id),
                    () -> m.packed().contains(m.item(id)));
            case 11: return same("bagOf(" + id + ")", () -> x.bagOf(id), () -> m.bagOf(id));
            case 12: return same("layerOf(" + id + ")", () -> x.layerOf(id), () -> m.layerOf(id));
            case 13: return same("itemAtRank(" + rank + ")", () -> x.itemAtRank(rank), () -> m.itemAtRank(rank));
            case 14: return same("bagCount()", () -> x.bagCount(), () -> m.state.bags.size());
            case 15: return same("limitOf(" + bag + ")", () -> x.limitOf(bag), () -> m.bag(bag).limit);
            case 16: return same("weightIn(" + bag + ")", () -> x.weightIn(bag), () -> m.bag(bag).weight());
            case 17: return same("weightInByLayers(" + bag + ")", () -> x.weightInByLayers(bag),
                    () -> m.bag(bag).weight());
            case 18: return same("weightLeft(" + bag + ")", () -> x.weightLeft(bag),
                    () -> m.bag(bag).limit - m.bag(bag).weight());
            case 19: return same("layerCount(" + bag + ")", () -> x.layerCount(bag),
                    () -> m.bag(bag).layers.size());
            case 20: return same("itemsInLayer" + two, () -> x.itemsInLayer(bag, layer),
                    () -> m.layer(bag, layer).size());
            case 21: return same("itemAt(" + bag + ", " + layer + ", " + position + ")",
                    () -> x.itemAt(bag, layer, position), () -> m.itemAt(bag, layer, position));
            case 22: return same("sizeUsed" + two, () -> x.sizeUsed(bag, layer),
                    () -> Model.sizes(m.layer(bag, layer)));
            case 23: return same("loadOf" + two, () -> x.loadOf(bag, layer), () -> m.loadOf(bag, layer));
            case 24: return same("bestLoad(" + bag + ")", () -> x.bestLoad(bag), () -> m.bestLoad(bag));
            case 25: return same("bestLoadByTable(" + bag + ")", () -> x.bestLoadByTable(bag), () -> m.bestLoad(bag));
            case 26: return same("emptiestBag()", () -> x.emptiestBag(), () -> m.emptiestBag());
            case 27: return same("shareUsed()", () -> x.shareUsed(), () -> m.shareUsed());
            case 28: return same("isConsistent()", () -> x.isConsistent(), () -> true);
            case 29: return same("refusalReason()", () -> x.refusalReason(), () -> m.refusalReason());
            case 30: return same("refusedItem()", () -> x.refusedItem(), () -> m.refusedItem());
            default:
                same("errorPosition()", () -> x.errorPosition(), () -> m.stored(m.errorPosition));
                return 1 + same("failedCommand()", () -> x.failedCommand(), () -> m.stored(m.failedCommand));
        }
    }

    private static String number(int value) {
        int digits = Math.floorMod(value, 100);
        return digits < 10 && random.nextInt(5) == 0 ? "0" + digits : "" + digits;
    }

    private static String someCommand() {
        switch (random.nextInt(8)) {
            case 0: return "bag " + number(around(1, 99));
            case 1:
            case 2: return "item " + number(around(1, 10)) + " " + number(around(1, 20)) + " "
                    + number(around(1, 30)) + (random.nextInt(3) == 0 ? "!" : "");
            case 3: return "drop " + number(someId());
            case 4: return "pack " + number(someId()) + " " + Math.floorMod(someBag(), 10);
            case 5: return "unpack " + number(someId());
            case 6: return "fill " + Math.floorMod(someBag(), 10);
            default: return "deliver";
        }
    }

    private static String someProgram() {
        StringBuilder text = new StringBuilder(someCommand());
        int more = random.nextInt(4);
        for (int count = 0; count < more; count++) {
            text.append(';').append(someCommand());
        }
        if (random.nextInt(3) == 0) {
            int at = random.nextInt(text.length() + 1);
            int dice = random.nextInt(4);
            if (dice == 0) {
                text.setLength(at);
            } else if (dice == 1) {
                text.insert(at, "0123456789 ;!bdipufe".charAt(random.nextInt(20)));
            } else if (at < text.length() && dice == 2) {
                text.deleteCharAt(at);
            } else if (at < text.length()) {
                text.setCharAt(at, (char) random.nextInt(130));
            }
        }
        return text.toString();
    }

    private static int typedProgram() {
        String text = someProgram();
        int count = 0;
        for (int index = 0; index < text.length(); index++) {
            char character = text.charAt(index);
            count += same("type(" + character + ")", () -> x.type(character), () -> m.type(character));
        }
        count += same("execute()", () -> x.execute(), () -> m.execute());
        return count + question() + readLabel(someBag());
    }
}
