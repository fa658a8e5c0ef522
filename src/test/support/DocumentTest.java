import java.io.IOException;
import java.nio.file.Files;
import java.nio.file.Path;
import java.util.ArrayList;
import java.util.LinkedHashSet;
import java.util.List;
import java.util.Map;
import java.util.NoSuchElementException;
import java.util.Set;
import java.util.function.BiFunction;
import java.util.function.Function;
import java.util.function.Supplier;

/**
 * What the tests share that go through the document sentence by sentence. A test of a sentence quotes it; the quote has
 * to stand in the document, and a sentence of a section that no test quotes is a fault.
 */
abstract class DocumentTest {
    static final Class<?> ARGUMENT = IllegalArgumentException.class;
    static final Class<?> STATE = IllegalStateException.class;
    static final Class<?> ELEMENT = NoSuchElementException.class;
    static final Class<?> INDEX = IndexOutOfBoundsException.class;
    static final Class<?> REFUSED = UnsupportedOperationException.class;
    static final Class<?> ARITHMETIC = ArithmeticException.class;
    static final int LEAST = Integer.MIN_VALUE;
    static final int MOST = Integer.MAX_VALUE;

    private static final List<String> DOCUMENT = readDocument();
    private static List<String> sentences = new ArrayList<>();
    private static Set<String> untested = new LinkedHashSet<>();
    private static String place = "";
    private static int tests = 0;
    private static int checks = 0;
    private static int wrong = 0;

    // ---- the document

    private static List<String> readDocument() {
        try {
            return Files.readAllLines(Path.of("../shared/DOC.md"));
        } catch (IOException e) {
            throw new IllegalStateException("the document can't be read", e);
        }
    }

    /** The sentences that follow are those of a promise, without its signature. */
    static void promise(int number) {
        List<String> found = new ArrayList<>();
        boolean isInside = false;
        for (String line : DOCUMENT) {
            if (line.startsWith("## ")) {
                isInside = line.startsWith("## Promise " + number + ":");
            } else if (isInside) {
                addSentences(found, line.replaceFirst("^`[^`]*\\)[^`]*`: ", "").replaceFirst("^- ", ""));
            }
        }
        begin("promise " + number, found);
    }

    /** The sentences that follow are those of the paragraph, or the lines, that start with these words. */
    static void paragraph(String... starts) {
        List<String> found = new ArrayList<>();
        for (String start : starts) {
            for (String line : DOCUMENT) {
                if (oneBlank(line).startsWith(start)) {
                    addSentences(found, oneBlank(line));
                }
            }
            // The name of a part, as in "Best load.", is no sentence.
            found.remove(start);
        }
        begin(starts[0], found);
    }

    private static void addSentences(List<String> found, String line) {
        for (String sentence : oneBlank(line).split("(?<=\\.) (?=[A-Z])")) {
            if (!sentence.isEmpty()) {
                found.add(sentence);
            }
        }
    }

    private static String oneBlank(String text) {
        return text.trim().replaceAll("\\s+", " ");
    }

    private static void begin(String name, List<String> found) {
        endSection();
        place = name;
        sentences = found;
        untested = new LinkedHashSet<>(found);
        if (found.isEmpty()) {
            fault("not found in the document");
        }
    }

    private static void endSection() {
        for (String sentence : untested) {
            fault("no test quotes: " + sentence);
        }
        untested = new LinkedHashSet<>();
    }

    // ---- tests and checks

    /** Runs the test of a sentence, or of the part of one that is quoted. */
    static void sentence(String quote, Runnable test) {
        boolean isFound = false;
        for (String sentence : sentences) {
            if (sentence.contains(quote)) {
                isFound = true;
                untested.remove(sentence);
            }
        }
        if (!isFound) {
            fault("not in the document: " + quote);
        }
        int before = checks;
        tests++;
        try {
            test.run();
        } catch (RuntimeException e) {
            fault("\"" + quote + "\", line " + lineOfTest(e) + ": " + e);
        }
        if (checks == before) {
            fault("nothing is checked: " + quote);
        }
    }

    /** Two sentences that say the same. */
    static void sentence(String quote, String other, Runnable test) {
        sentence(quote, test);
        sentence(other, test);
    }

    static void finish() {
        endSection();
        System.out.println(tests + " sentences, " + checks + " checks, " + wrong + " wrong");
        if (wrong != 0) {
            System.exit(1);
        }
    }

    private static void fault(String text) {
        wrong++;
        System.out.println(place + ": " + text);
    }

    private static int lineOfTest(Throwable thrown) {
        for (StackTraceElement frame : thrown.getStackTrace()) {
            if (frame.getClassName().endsWith("Test") && !frame.getClassName().equals("DocumentTest")) {
                return frame.getLineNumber();
            }
        }
        return 0;
    }

    static void is(Object want, Object got) {
        checks++;
        if (!want.equals(got)) {
            fault("line " + lineOfTest(new Throwable()) + ": due is " + want + ", got " + got);
        }
    }

    static void throwing(Class<?> want, Supplier<?> call) {
        is(want.getSimpleName(), States.outcome(call));
    }

    /** The text fits into the buffer, and the program throws. */
    static void runFails(Class<?> want, CourierBags x, String text) {
        States.write(x, text);
        throwing(want, x::execute);
    }

    /** The call throws, on an object in this state, and nothing changes but the aspects that are named. */
    static void refused(Class<?> want, Supplier<CourierBags> state, Function<CourierBags, ?> call, String... changed) {
        CourierBags x = state.get();
        throwing(want, () -> call.apply(x));
        unchanged(state, call, changed);
    }

    /** The call, whatever it answers, changes nothing but the aspects that are named. */
    static void unchanged(Supplier<CourierBags> state, Function<CourierBags, ?> call, String... changed) {
        Map<String, String> before = States.aspects(state);
        Map<String, String> after = States.aspects(() -> {
            CourierBags x = state.get();
            States.outcome(() -> call.apply(x));
            return x;
        });
        for (String aspect : before.keySet()) {
            if (!List.of(changed).contains(aspect)) {
                is(aspect + ": " + before.get(aspect), aspect + ": " + after.get(aspect));
            }
        }
    }

    // ---- arguments that name nothing

    /** Ids that no item has: in a new object, of an item that is gone, and on either side of the twelve ids there. */
    static void noSuchItem(BiFunction<CourierBags, Integer, ?> call) {
        refused(ELEMENT, States::empty, x -> call.apply(x, 0));
        for (int id : new int[] {LEAST, -1, States.DELIVERED, States.REMOVED, States.LAST_ITEM + 1, MOST}) {
            refused(ELEMENT, States::full, x -> call.apply(x, id));
        }
    }

    /** Numbers that no bag has: without bags, with one, and with all three. */
    static void noSuchBag(BiFunction<CourierBags, Integer, ?> call) {
        refused(INDEX, States::empty, x -> call.apply(x, 0));
        refused(INDEX, () -> States.withBags(99), x -> call.apply(x, 1));
        for (int bag : new int[] {LEAST, -1, 3, MOST}) {
            refused(INDEX, States::full, x -> call.apply(x, bag));
        }
    }

    /** Numbers that no layer has: in no bag, in an empty one, in one with one layer, and in one with all five. */
    static void noSuchLayer(LayerCall call) {
        noSuchBag((x, bag) -> call.of(x, bag, 0));
        refused(INDEX, States::full, x -> call.of(x, States.EMPTY_BAG, 0));
        refused(INDEX, States::full, x -> call.of(x, States.HEAVY_BAG, 1));
        for (int layer : new int[] {LEAST, -1, 5, MOST}) {
            refused(INDEX, States::full, x -> call.of(x, States.HIGH_BAG, layer));
        }
    }

    /** A call with a bag and a layer. */
    interface LayerCall {
        Object of(CourierBags x, int bag, int layer);
    }
}
