import java.nio.file.Files;
import java.nio.file.Path;
import java.util.ArrayList;
import java.util.List;
import java.util.Map;
import java.util.TreeMap;
import java.util.regex.Matcher;
import java.util.regex.Pattern;

/**
 * Long runs that mix the calls of all promises on one object, each answer held against the ledger. The run is made again
 * up to some of its calls on other objects, of which everything is asked then, also behind undo and restore. At the end
 * it is counted whether the runs met each answer and each exception of each method, and what is rarer than that.
 */
public final class CourierBagsLongRunsTest {
    private static final int RUNS = 3000;
    private static final int CALLS = 512;
    private static final int TWINS = 4;
    private static final int LEAST_OFTEN = 25;
    private static final int BUFFER = 60;
    private static final Map<String, Integer> MET = new TreeMap<>();

    /** What makes the runs differ: the items of one kind seldom come into all states. */
    private record Style(int leastSize, int size, int weight, int stop, int fragileOneIn, int limit, int programOneIn,
            int undoOneIn) {
    }

    private static final Style[] STYLES = {
        new Style(1, 10, 20, 30, 4, 99, 12, 10),
        new Style(1, 10, 3, 3, 3, 99, 10, 10),
        new Style(4, 10, 2, 1, 9, 99, 6, 40),
        new Style(1, 3, 9, 2, 2, 60, 9, 9),
        new Style(1, 6, 4, 6, 2, 30, 5, 12),
        new Style(4, 10, 9, 9, 2, 99, 12, 30),
    };

    private final Dice dice;
    private final Style style;
    private CourierBags object = new CourierBags();
    private Ledger ledger = new Ledger();
    private final List<Calls.Call> made = new ArrayList<>();

    private CourierBagsLongRunsTest(int run) {
        dice = new Dice(run);
        style = STYLES[run % STYLES.length];
    }

    public static void main(String[] args) throws Exception {
        for (int run = 0; run < RUNS; run++) {
            CourierBagsLongRunsTest one = new CourierBagsLongRunsTest(run);
            one.run();
            one.repeatAndAskAll();
        }
        boolean isMet = isAllMet();
        System.out.println(RUNS + " runs of " + CALLS + " calls, " + MET.size() + " kinds of outcomes");
        if (!isMet) {
            System.exit(1);
        }
    }

    // ---- making calls

    private boolean make(Calls.Call call) {
        if (made.size() == CALLS) {
            return false;
        }
        Ledger.World before = ledger.now;
        int undoable = ledger.past.size();
        String undone = undoable == 0 ? "nothing" : ledger.past.get(undoable - 1).call();
        made.add(call);
        String due = text(call.due().apply(ledger));
        hold(call, due);
        meet(call.name() + (due.endsWith("Exception") ? " throws " + due : " answers"));
        meetRareOnes(call, due, before, undone);
        return true;
    }

    private void hold(Calls.Call call, String due) {
        String got;
        try {
            got = text(call.real().apply(object));
        } catch (RuntimeException e) {
            got = e.getClass().getSimpleName();
        }
        if (!got.equals(due)) {
            made.forEach(System.out::println);
            System.out.println("then " + call + " answered " + got + ", due is " + due);
            System.exit(1);
        }
    }

    private static String text(Object answer) {
        return answer instanceof Class<?> thrown ? thrown.getSimpleName() : String.valueOf(answer);
    }

    private static void meet(String outcome) {
        MET.merge(outcome, 1, Integer::sum);
    }

    private void meetRareOnes(Calls.Call call, String due, Ledger.World before, String undone) {
        if (due.equals("UnsupportedOperationException")) {
            meet("pack refused for " + ledger.reason);
        }
        if (due.endsWith("Exception")) {
            return;
        }
        switch (call.name()) {
            case "pack" -> meet("pack into layer " + due);
            case "undo" -> meet("undo of " + undone);
            case "deliver" -> {
                long bags = before.those(p -> p.isPacked() && ledger.now.parcel(p.id()) == null).stream()
                        .map(Ledger.Parcel::bag).distinct().count();
                meet("deliver from " + bags + " bags");
            }
            case "unpack" -> meet("unpack leaves " + due + " layers");
            case "autoPack" -> meet("autoPack of " + (due.equals("0") ? "nothing" : "something"));
            case "restore" -> meet(before == ledger.now ? "restore of the same" : "restore of another state");
            default -> {
            }
        }
    }

    // ---- one run

    private void run() {
        boolean goesOn = true;
        while (goesOn) {
            goesOn = dice.oneIn(style.programOneIn) ? program() : dice.oneIn(style.undoOneIn) ? undos() : call();
            goesOn = goesOn && (dice.oneIn(2) || question());
        }
    }

    private boolean call() {
        switch (dice.below(24)) {
            case 0:
                return make(Calls.addBag(around(1, style.limit, 99)));
            case 1, 2, 3, 4, 5, 6:
                return make(Calls.addItem(size(), weight(), stop(), dice.oneIn(style.fragileOneIn)));
            case 7:
                return make(Calls.removeItem(id(false)));
            case 8, 9, 10, 11, 12, 13, 14:
                return packing(id(false), bag());
            case 15, 16:
                return make(Calls.unpack(id(true)));
            case 17:
                return make(Calls.autoPack(bag()));
            case 18:
                return make(Calls.deliver());
            case 19:
                return make(Calls.save());
            case 20:
                return dice.oneIn(3) ? make(Calls.restore()) : label();
            default:
                return ledger.now.limits().size() < 3 && dice.oneIn(3) ? make(Calls.addBag(around(1, style.limit, 99)))
                        : question();
        }
    }

    private boolean packing(int id, int bag) {
        return (dice.oneIn(2) || make(Calls.canPack(id, bag))) && make(Calls.pack(id, bag));
    }

    private boolean undos() {
        int steps = dice.oneIn(4) ? 9 : 1 + dice.below(3);
        boolean goesOn = true;
        for (int step = 0; step < steps && goesOn; step++) {
            goesOn = make(Calls.undo());
        }
        return goesOn;
    }

    private boolean label() {
        boolean goesOn = make(Calls.writeLabel(bag()));
        for (int count = dice.below(4); count > 0 && goesOn; count--) {
            goesOn = make(Calls.labelAt(around(0, Math.max(0, ledger.label.length() - 1), 100)));
        }
        return goesOn;
    }

    private boolean question() {
        int layer = dice.below(3);
        switch (dice.below(8)) {
            case 0, 1, 2:
                return make(dice.oneOf(Calls.plain()));
            case 3, 4:
                return make(dice.oneOf(Calls.ofItem(id(dice.oneIn(2)))));
            case 5:
                return make(dice.oneOf(Calls.ofBag(bag())));
            case 6:
                return make(dice.oneIn(3) ? Calls.itemAt(bag(), layer, around(0, 3, 9))
                        : dice.oneOf(Calls.ofLayer(bag(), layer)));
            default:
                return make(Calls.itemAtRank(around(0, ledger.now.parcels().size(), 12)));
        }
    }

    // ---- arguments

    /** Mostly from low to high, but at times up to the most that is allowed, or beyond it. */
    private int around(int low, int high, int most) {
        switch (dice.below(50)) {
            case 0:
                return low - 1;
            case 1:
                return most + 1;
            case 2:
                return low + dice.below(most - low + 1);
            case 3:
                return dice.oneIn(2) ? Integer.MIN_VALUE : Integer.MAX_VALUE;
            default:
                return low + dice.below(high - low + 1);
        }
    }

    private int size() {
        return around(style.leastSize, style.size, 10);
    }

    private int weight() {
        return around(1, style.weight, 20);
    }

    private int stop() {
        return around(1, style.stop, 30);
    }

    /** Mostly of an item of the depot, or else of one in a top layer. */
    private int id(boolean isPacked) {
        return id(ledger.now, isPacked);
    }

    private int id(Ledger.World world, boolean isPacked) {
        List<Ledger.Parcel> wanted = world.those(p -> p.isPacked() == isPacked
                && (!isPacked || world.layerOf(p) == world.layersBegun(p.bag()).size() - 1));
        if (wanted.isEmpty() || dice.oneIn(8)) {
            return around(0, world.nextId(), world.nextId());
        }
        return dice.oneOf(wanted).id();
    }

    private int bag() {
        return around(0, Math.max(0, ledger.now.limits().size() - 1), 2);
    }

    // ---- programs

    private boolean program() {
        String text = dice.oneIn(5) ? changed(program(1 + dice.below(4))) : program(1 + dice.below(9));
        if (ledger.buffer.length() + text.length() > BUFFER && !dice.oneIn(9)) {
            text = "";
        }
        boolean goesOn = true;
        for (int index = 0; index < text.length() && goesOn; index++) {
            goesOn = make(Calls.type(text.charAt(index)));
        }
        if (dice.oneIn(20)) {
            return goesOn && make(Calls.type((char) dice.below(dice.oneIn(2) ? 140 : 65536)));
        }
        if (goesOn) {
            meetProgram(ledger.buffer);
        }
        return goesOn && make(Calls.execute());
    }

    private static final class Program {
        String text = "";
        Ledger.World world;
    }

    /** Commands that mostly can be executed one after the other. */
    private String program(int commands) {
        Program program = new Program();
        program.world = ledger.now;
        for (int count = 0; count < commands; count++) {
            String command = command(program.world);
            String longer = program.text.isEmpty() ? command : program.text + ";" + command;
            if (longer.length() > BUFFER) {
                break;
            }
            Ledger.Step step = Ledger.command(program.world, command);
            if (step.isMade() || dice.oneIn(3)) {
                program.text = longer;
                program.world = step.isMade() ? step.after() : program.world;
            }
        }
        return program.text.isEmpty() ? "deliver" : program.text;
    }

    private String command(Ledger.World world) {
        int bags = world.limits().size();
        String bag = "" + (dice.oneIn(12) ? dice.below(10) : dice.below(Math.max(1, bags)));
        switch (dice.below(12)) {
            case 0:
                return "bag " + number(around(1, style.limit, 99));
            case 1, 2, 3:
                return "item " + number(size()) + " " + number(weight()) + " " + number(stop())
                        + (dice.oneIn(style.fragileOneIn) ? "!" : "");
            case 4:
                return "drop " + number(id(world, false));
            case 5, 6, 7:
                return "pack " + number(id(world, false)) + " " + bag;
            case 8, 9:
                return "unpack " + number(id(world, true));
            case 10:
                return "fill " + bag;
            default:
                return "deliver";
        }
    }

    private String number(int value) {
        int shown = Math.floorMod(value, 100);
        return shown < 10 && dice.oneIn(4) ? "0" + shown : "" + shown;
    }

    /** One character is gone, or more, or another one, or all behind it is gone. */
    private String changed(String text) {
        int at = dice.below(text.length());
        char other = dice.oneIn(2) ? text.charAt(dice.below(text.length())) : (char) (' ' + dice.below(95));
        switch (dice.below(4)) {
            case 0:
                return text.substring(0, at) + text.substring(at + 1);
            case 1:
                return text.substring(0, at) + other + text.substring(at);
            case 2:
                return text.substring(0, at) + other + text.substring(at + 1);
            default:
                return text.substring(0, at);
        }
    }

    /** Counts what the program does, by the ledger. */
    private void meetProgram(String text) {
        if (!Grammar.isProgram(text)) {
            int wrong = Grammar.firstWrong(text);
            meet("malformed " + (wrong == text.length() ? "as it ends too early" : "at a character"));
            return;
        }
        String[] commands = text.split(";");
        Ledger.World world = ledger.now;
        for (int index = 0; index < commands.length; index++) {
            String name = commands[index].split(" ")[0];
            Ledger.Step step = Ledger.command(world, commands[index]);
            if (!step.isMade()) {
                meet("command " + name + " fails behind " + (index == 0 ? "none" : "others"));
                meet("command " + name + " throws " + text(step.answer())
                        + (step.reason() == 0 ? "" : " for " + step.reason()));
                return;
            }
            world = step.after();
        }
        for (String command : commands) {
            meet("command " + command.split(" ")[0] + " executed");
        }
        meet("program of " + Math.min(commands.length, 4) + (commands.length < 4 ? "" : " or more"));
    }

    // ---- everything about the state in the midst of a run

    private void repeatAndAskAll() {
        List<Calls.Call> run = new ArrayList<>(made);
        for (int twin = 0; twin < TWINS; twin++) {
            repeat(run.subList(0, dice.below(CALLS - 20)));
            switch (twin) {
                case 0:
                    makeAll(1 + dice.below(9), Calls.undo());
                    break;
                case 1:
                    makeAll(1, Calls.restore());
                    break;
                case 2:
                    makeAll(1, Calls.execute());
                    break;
                default:
                    break;
            }
            askAll();
        }
    }

    private void repeat(List<Calls.Call> calls) {
        object = new CourierBags();
        ledger = new Ledger();
        made.clear();
        calls.forEach(this::make);
    }

    private void makeAll(int times, Calls.Call call) {
        for (int time = 0; time < times; time++) {
            make(call);
        }
    }

    /** As much as the calls that are left allow, from a place of the list on that differs. */
    private void askAll() {
        List<Calls.Call> all = Calls.audit(ledger);
        int from = made.size() + all.size() > CALLS ? dice.below(all.size()) : 0;
        boolean goesOn = true;
        for (int count = 0; count < all.size() && goesOn; count++) {
            goesOn = make(all.get((from + count) % all.size()));
        }
    }

    // ---- what the runs met

    private static boolean isAllMet() throws Exception {
        List<String> wanted = outcomesOfTheFace();
        if (wanted.size() < 99) {
            System.out.println("the document's face was not found");
            return false;
        }
        wanted.addAll(rareOutcomes());
        boolean isMet = true;
        for (String outcome : wanted) {
            int times = MET.getOrDefault(outcome, 0);
            if (times < LEAST_OFTEN) {
                System.out.println("met " + times + " times only: " + outcome);
                isMet = false;
            }
        }
        return isMet;
    }

    /** Each method answers, and throws each exception that its line in the document names. */
    private static List<String> outcomesOfTheFace() throws Exception {
        List<String> outcomes = new ArrayList<>();
        Pattern method = Pattern.compile("    public (?:int|boolean|char|double) (\\w+)\\([^)]*\\)(?: throws ([\\w, ]+))?;");
        for (String line : Files.readAllLines(Path.of("../shared/DOC.md"))) {
            Matcher matcher = method.matcher(line);
            if (matcher.matches()) {
                outcomes.add(matcher.group(1) + " answers");
                String exceptions = matcher.group(2) == null ? "" : matcher.group(2);
                for (String exception : exceptions.isEmpty() ? new String[0] : exceptions.split(", ")) {
                    outcomes.add(matcher.group(1) + " throws " + exception);
                }
            }
        }
        return outcomes;
    }

    private static List<String> rareOutcomes() {
        List<String> outcomes = new ArrayList<>();
        for (int reason = 1; reason <= 4; reason++) {
            outcomes.add("pack refused for " + reason);
            outcomes.add("command pack throws UnsupportedOperationException for " + reason);
        }
        for (int layer = 0; layer < 5; layer++) {
            outcomes.add("pack into layer " + layer);
            outcomes.add("unpack leaves " + layer + " layers");
        }
        outcomes.addAll(List.of("unpack leaves 5 layers", "deliver from 1 bags", "deliver from 2 bags",
                "deliver from 3 bags", "autoPack of nothing", "autoPack of something", "restore of another state",
                "malformed as it ends too early", "malformed at a character", "program of 1", "program of 2", "program of 3",
                "program of 4 or more"));
        for (String call : "addBag addItem removeItem pack unpack autoPack deliver execute".split(" ")) {
            outcomes.add("undo of " + call);
        }
        for (String command : "bag item drop pack unpack fill deliver".split(" ")) {
            outcomes.add("command " + command + " executed");
            outcomes.add("command " + command + " fails behind none");
            outcomes.add("command " + command + " fails behind others");
        }
        outcomes.addAll(List.of("command bag throws IllegalArgumentException", "command bag throws IllegalStateException",
                "command item throws IllegalArgumentException", "command item throws IllegalStateException",
                "command drop throws NoSuchElementException", "command drop throws IllegalStateException",
                "command pack throws NoSuchElementException", "command pack throws IndexOutOfBoundsException",
                "command pack throws IllegalStateException", "command unpack throws NoSuchElementException",
                "command unpack throws IllegalStateException", "command fill throws IndexOutOfBoundsException",
                "command deliver throws IllegalStateException"));
        return outcomes;
    }

    /** Numbers that are the same in each run of the test. */
    private static final class Dice {
        private long state;

        Dice(int seed) {
            state = 88172645463325252L + seed * 1181783497276652981L;
        }

        int below(int bound) {
            state = state * 6364136223846793005L + 1442695040888963407L;
            return (int) Math.floorMod(state >>> 33, (long) bound);
        }

        boolean oneIn(int count) {
            return below(count) == 0;
        }

        <T> T oneOf(List<T> list) {
            return list.get(below(list.size()));
        }
    }
}
