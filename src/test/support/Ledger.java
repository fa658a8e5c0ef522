import java.util.ArrayList;
import java.util.Comparator;
import java.util.List;
import java.util.function.Predicate;

/**
 * What the document asks, in a shape of its own: a world is never changed but followed by another one, and a layer is
 * not held at all, but is what the parcels of a bag share that were packed since it was begun. A call answers its value,
 * or the class of the exception that is due.
 */
final class Ledger {
    static final Class<?> ARGUMENT = IllegalArgumentException.class;
    static final Class<?> STATE = IllegalStateException.class;
    static final Class<?> ELEMENT = java.util.NoSuchElementException.class;
    static final Class<?> INDEX = IndexOutOfBoundsException.class;
    static final Class<?> REFUSED = UnsupportedOperationException.class;

    private static final int DEPOT = -1;
    private static final Comparator<Parcel> AS_PACKED =
            Comparator.comparingInt(Parcel::begun).thenComparingInt(Parcel::turn);
    private static final Comparator<Parcel> BY_RANK = Comparator.comparingInt(Parcel::stop).reversed()
            .thenComparing(Comparator.comparingInt(Parcel::weight).reversed()).thenComparingInt(Parcel::id);

    /** An item: begun is the turn in which its layer was begun, and turn the one in which it was packed itself. */
    record Parcel(int id, int size, int weight, int stop, boolean fragile, int bag, int begun, int turn) {
        boolean isPacked() {
            return bag != DEPOT;
        }

        Parcel put(int intoBag, int layerBegun, int inTurn) {
            return new Parcel(id, size, weight, stop, fragile, intoBag, layerBegun, inTurn);
        }
    }

    /** All that undo and restore bring back. */
    record World(List<Parcel> parcels, List<Integer> limits, int nextId, int count, int weight, int turns) {
        List<Parcel> those(Predicate<Parcel> wanted) {
            return parcels.stream().filter(wanted).toList();
        }

        Parcel parcel(int id) {
            return parcels.stream().filter(p -> p.id == id).findFirst().orElse(null);
        }

        boolean hasBag(int bag) {
            return bag >= 0 && bag < limits.size();
        }

        List<Parcel> bag(int bag) {
            return those(p -> p.bag == bag).stream().sorted(AS_PACKED).toList();
        }

        List<Integer> layersBegun(int bag) {
            return bag(bag).stream().map(Parcel::begun).distinct().toList();
        }

        boolean hasLayer(int bag, int layer) {
            return hasBag(bag) && layer >= 0 && layer < layersBegun(bag).size();
        }

        List<Parcel> layer(int bag, int layer) {
            int begun = layersBegun(bag).get(layer);
            return bag(bag).stream().filter(p -> p.begun == begun).toList();
        }

        int layerOf(Parcel parcel) {
            return layersBegun(parcel.bag).indexOf(parcel.begun);
        }

        int weightAbove(Parcel parcel) {
            return weights(those(p -> p.bag == parcel.bag && p.begun > parcel.begun));
        }

        int left(int bag) {
            return limits.get(bag) - weights(bag(bag));
        }

        boolean joinsTop(Parcel parcel, int bag) {
            int layers = layersBegun(bag).size();
            return layers > 0 && sizes(layer(bag, layers - 1)) + parcel.size <= 10;
        }

        /** The constant that tells why the packing is refused, or 0. */
        int reason(Parcel parcel, int bag) {
            List<Integer> begun = layersBegun(bag);
            boolean joins = joinsTop(parcel, bag);
            List<Parcel> below = those(p -> p.bag == bag && !(joins && p.begun == begun.get(begun.size() - 1)));
            if (parcel.weight > left(bag)) {
                return 1;
            }
            if (!joins && begun.size() == 5) {
                return 2;
            }
            if (below.stream().anyMatch(p -> p.stop < parcel.stop)) {
                return 3;
            }
            return below.stream().anyMatch(p -> p.fragile && weightAbove(p) + parcel.weight > 8) ? 4 : 0;
        }

        World with(List<Parcel> others) {
            return new World(others, limits, nextId, count, weight, turns);
        }

        World replacing(Parcel old, Parcel... by) {
            List<Parcel> others = new ArrayList<>(those(p -> p != old));
            others.addAll(List.of(by));
            return with(others);
        }

        World packing(Parcel parcel, int bag) {
            List<Integer> begun = layersBegun(bag);
            int layer = joinsTop(parcel, bag) ? begun.get(begun.size() - 1) : turns;
            World packed = replacing(parcel, parcel.put(bag, layer, turns));
            return new World(packed.parcels, limits, nextId, count, weight, turns + 1);
        }
    }

    /** What follows a modification: another world and an answer, or an exception, and the reason if it is a refusal. */
    record Step(World after, Object answer, int reason, int refused) {
        static Step to(World after, Object answer) {
            return new Step(after, answer, 0, 0);
        }

        static Step fails(Class<?> exception) {
            return new Step(null, exception, 0, 0);
        }

        boolean isMade() {
            return after != null;
        }
    }

    /** A world before a modification, and the name of the modification. */
    record Past(World before, String call) {
    }

    World now = new World(List.of(), List.of(), 0, 0, 0, 0);
    World saved;
    final List<Past> past = new ArrayList<>();
    int reason;
    int refused;
    Integer errorPosition;
    Integer failedCommand;
    String label = "";
    String buffer = "";

    static int weights(List<Parcel> parcels) {
        return parcels.stream().mapToInt(Parcel::weight).sum();
    }

    static int sizes(List<Parcel> parcels) {
        return parcels.stream().mapToInt(Parcel::size).sum();
    }

    // ---- modifications of a world

    static Step addBag(World w, int limit) {
        if (limit < 1 || limit > 99) {
            return Step.fails(ARGUMENT);
        }
        if (w.limits.size() == 3) {
            return Step.fails(STATE);
        }
        List<Integer> limits = new ArrayList<>(w.limits);
        limits.add(limit);
        return Step.to(new World(w.parcels, limits, w.nextId, w.count, w.weight, w.turns), w.limits.size());
    }

    static Step addItem(World w, int size, int weight, int stop, boolean fragile) {
        if (size < 1 || size > 10 || weight < 1 || weight > 20 || stop < 1 || stop > 30) {
            return Step.fails(ARGUMENT);
        }
        if (w.parcels.size() == 12) {
            return Step.fails(STATE);
        }
        List<Parcel> parcels = new ArrayList<>(w.parcels);
        parcels.add(new Parcel(w.nextId, size, weight, stop, fragile, DEPOT, 0, 0));
        return Step.to(new World(parcels, w.limits, w.nextId + 1, w.count, w.weight, w.turns), w.nextId);
    }

    static Step removeItem(World w, int id) {
        Parcel parcel = w.parcel(id);
        if (parcel == null) {
            return Step.fails(ELEMENT);
        }
        return parcel.isPacked() ? Step.fails(STATE) : Step.to(w.replacing(parcel), w.parcels.size() - 1);
    }

    static Step pack(World w, int id, int bag) {
        Parcel parcel = w.parcel(id);
        if (parcel == null) {
            return Step.fails(ELEMENT);
        }
        if (!w.hasBag(bag)) {
            return Step.fails(INDEX);
        }
        if (parcel.isPacked()) {
            return Step.fails(STATE);
        }
        if (w.reason(parcel, bag) != 0) {
            return new Step(null, REFUSED, w.reason(parcel, bag), id);
        }
        World after = w.packing(parcel, bag);
        return Step.to(after, after.layerOf(after.parcel(id)));
    }

    static Step unpack(World w, int id) {
        Parcel parcel = w.parcel(id);
        if (parcel == null) {
            return Step.fails(ELEMENT);
        }
        if (!parcel.isPacked() || w.layerOf(parcel) + 1 < w.layersBegun(parcel.bag).size()) {
            return Step.fails(STATE);
        }
        World after = w.replacing(parcel, parcel.put(DEPOT, 0, 0));
        return Step.to(after, after.layersBegun(parcel.bag).size());
    }

    static Step autoPack(World w, int bag) {
        if (!w.hasBag(bag)) {
            return Step.fails(INDEX);
        }
        World after = w;
        int packed = 0;
        for (Parcel parcel : ranked(w.those(p -> !p.isPacked()))) {
            if (after.reason(parcel, bag) == 0) {
                after = after.packing(parcel, bag);
                packed++;
            }
        }
        return Step.to(after, packed);
    }

    static Step deliver(World w) {
        List<Parcel> packed = w.those(Parcel::isPacked);
        if (packed.isEmpty()) {
            return Step.fails(STATE);
        }
        int stop = packed.stream().mapToInt(Parcel::stop).min().getAsInt();
        List<Parcel> gone = packed.stream().filter(p -> p.stop == stop).toList();
        return Step.to(new World(w.those(p -> !gone.contains(p)), w.limits, w.nextId, w.count + gone.size(),
                w.weight + weights(gone), w.turns), gone.size());
    }

    static List<Parcel> ranked(List<Parcel> parcels) {
        return parcels.stream().sorted(BY_RANK).toList();
    }

    /** One command of a program that keeps to the grammar. */
    static Step command(World w, String text) {
        String[] words = text.replace("!", "").split(" ");
        int first = words.length > 1 ? Integer.parseInt(words[1]) : 0;
        return switch (words[0]) {
            case "bag" -> addBag(w, first);
            case "item" -> addItem(w, first, Integer.parseInt(words[2]), Integer.parseInt(words[3]), text.endsWith("!"));
            case "drop" -> removeItem(w, first);
            case "pack" -> pack(w, first, Integer.parseInt(words[2]));
            case "unpack" -> unpack(w, first);
            case "fill" -> autoPack(w, first);
            default -> deliver(w);
        };
    }

    // ---- calls that change the ledger

    Object modify(String call, Step step) {
        keepRefusal(step);
        if (step.isMade()) {
            past.add(new Past(now, call));
            if (past.size() > 8) {
                past.remove(0);
            }
            now = step.after;
        }
        return step.answer;
    }

    private void keepRefusal(Step step) {
        if (step.reason != 0) {
            reason = step.reason;
            refused = step.refused;
        }
    }

    Object type(char character) {
        if (character < ' ' || character > '~') {
            return ARGUMENT;
        }
        if (buffer.length() == 60) {
            return STATE;
        }
        buffer += character;
        return buffer.length();
    }

    Object execute() {
        String text = buffer;
        buffer = "";
        int wrong = Grammar.firstWrong(text);
        if (wrong != Grammar.NONE) {
            errorPosition = wrong;
            return ARGUMENT;
        }
        String[] commands = text.split(";");
        World after = now;
        for (int index = 0; index < commands.length; index++) {
            Step step = command(after, commands[index]);
            if (!step.isMade()) {
                keepRefusal(step);
                failedCommand = index;
                return STATE;
            }
            after = step.after;
        }
        return modify("execute", Step.to(after, commands.length));
    }

    Object writeLabel(int bag) {
        if (!now.hasBag(bag)) {
            return INDEX;
        }
        label = "";
        for (int layer = 0; layer < now.layersBegun(bag).size(); layer++) {
            List<String> ids = now.layer(bag, layer).stream().map(p -> p.id + (p.fragile ? "!" : "")).toList();
            label = "[" + String.join(" ", ids) + "]" + label;
        }
        return label.length();
    }

    Object undo() {
        if (past.isEmpty()) {
            return STATE;
        }
        now = past.remove(past.size() - 1).before;
        return past.size();
    }

    Object save() {
        saved = now;
        return now.parcels.size();
    }

    Object restore() {
        if (saved == null) {
            return STATE;
        }
        now = saved;
        past.clear();
        return now.parcels.size();
    }

    // ---- calls that only ask

    Object canPack(int id, int bag) {
        Step step = pack(now, id, bag);
        return step.answer == ELEMENT || step.answer == INDEX ? step.answer : (Object) step.isMade();
    }

    Object nextStop() {
        return now.those(Parcel::isPacked).stream().map(Parcel::stop).min(Comparator.naturalOrder())
                .map(stop -> (Object) stop).orElse(ELEMENT);
    }

    /** Of an item, wherever it is. */
    Object of(int id, java.util.function.Function<Parcel, Object> part) {
        Parcel parcel = now.parcel(id);
        return parcel == null ? ELEMENT : part.apply(parcel);
    }

    Object ofPacked(int id, java.util.function.Function<Parcel, Object> part) {
        return of(id, parcel -> parcel.isPacked() ? part.apply(parcel) : ELEMENT);
    }

    Object itemAtRank(int rank) {
        return rank < 0 || rank >= now.parcels.size() ? INDEX : (Object) ranked(now.parcels).get(rank).id;
    }

    Object ofBag(int bag, java.util.function.IntFunction<Object> part) {
        return now.hasBag(bag) ? part.apply(bag) : INDEX;
    }

    Object ofLayer(int bag, int layer, java.util.function.Function<List<Parcel>, Object> part) {
        return now.hasLayer(bag, layer) ? part.apply(now.layer(bag, layer)) : INDEX;
    }

    Object itemAt(int bag, int layer, int position) {
        return ofLayer(bag, layer, parcels -> position < 0 || position >= parcels.size() ? ELEMENT
                : (Object) parcels.get(position).id);
    }

    /** By taking each parcel of the depot in, or leaving it out. */
    Object bestLoad(int bag) {
        return ofBag(bag, number -> best(now.those(p -> !p.isPacked()), 0, now.left(number)));
    }

    private static int best(List<Parcel> parcels, int from, int left) {
        int best = 0;
        for (int index = from; index < parcels.size(); index++) {
            Parcel parcel = parcels.get(index);
            if (parcel.weight <= left) {
                best = Math.max(best, parcel.size + best(parcels, index + 1, left - parcel.weight));
            }
        }
        return best;
    }

    Object emptiestBag() {
        Object emptiest = ELEMENT;
        int most = -1;
        for (int bag = 0; bag < now.limits.size(); bag++) {
            if (now.left(bag) > most) {
                emptiest = bag;
                most = now.left(bag);
            }
        }
        return emptiest;
    }

    Object shareUsed() {
        if (now.limits.isEmpty()) {
            return ArithmeticException.class;
        }
        int limits = now.limits.stream().mapToInt(limit -> limit).sum();
        return (double) weights(now.those(Parcel::isPacked)) / (double) limits;
    }

    Object stored(Integer number) {
        return number == null ? ELEMENT : number;
    }

    Object ofRefusal(int number) {
        return reason == 0 ? ELEMENT : (Object) number;
    }

    Object labelAt(int index) {
        return index < 0 || index >= label.length() ? INDEX : (Object) label.charAt(index);
    }
}
