import java.util.function.Function;

/** Each sentence of promises 39 to 49 (refusals, label and commands, undo and snapshots), at its boundaries. */
public final class CourierBagsCommandEdgesTest extends DocumentTest {
    // All that undo and restore leave alone, but for the buffer.
    private static final String[] LEFT_ALONE = {"refusal", "label", "error position", "failed command"};

    public static void main(String[] args) {
        refusalReason();
        refusedItem();
        writeLabel();
        labelAt();
        type();
        execute();
        executeThrows();
        errorPosition();
        failedCommand();
        undo();
        save();
        restore();
        finish();
    }

    /** A bag with the limit 5, an item that fits (0), two that are too heavy (1 and 2), and one of a later stop (3). */
    private static CourierBags small() {
        CourierBags x = States.withBags(5);
        x.addItem(10, 1, 1, false);
        x.addItem(1, 6, 1, false);
        x.addItem(1, 20, 1, false);
        x.addItem(10, 1, 2, false);
        return x;
    }

    // ---- refusals

    private static void refusalReason() {
        promise(39);
        sentence("Returns the reason of the last refusal.", () -> {
            CourierBags x = small();
            throwing(REFUSED, () -> x.pack(1, 0));
            is(CourierBags.TOO_HEAVY, x.refusalReason());
            x.pack(0, 0);
            throwing(REFUSED, () -> x.pack(3, 0));
            is(CourierBags.WRONG_ORDER, x.refusalReason());
            throwing(REFUSED, () -> x.pack(2, 0));
            is(CourierBags.TOO_HEAVY, x.refusalReason());
            runFails(STATE, x, "pack 3 0");
            is(CourierBags.WRONG_ORDER, x.refusalReason());
            x.unpack(0);
            x.pack(3, 0);
            is(CourierBags.WRONG_ORDER, x.refusalReason());
        });
        sentence("Returns one of the constants.", () -> {
            int[] reasons = {CourierBags.TOO_HEAVY, CourierBags.NO_SPACE, CourierBags.WRONG_ORDER, CourierBags.TOO_FRAGILE};
            for (int reason : reasons) {
                int layers = reason == CourierBags.NO_SPACE ? 5 : 1;
                CourierBags x = States.withBags(reason == CourierBags.TOO_HEAVY ? 20 : 99);
                for (int id = 0; id < layers; id++) {
                    x.addItem(10, 1, reason == CourierBags.WRONG_ORDER ? 8 : 9, reason == CourierBags.TOO_FRAGILE);
                    x.pack(id, 0);
                }
                x.addItem(10, 20, 9, false);
                throwing(REFUSED, () -> x.pack(layers, 0));
                is(reason, x.refusalReason());
            }
        });
        sentence("Throws `NoSuchElementException` if no packing was refused so far",
                () -> noRefusalSoFar(CourierBags::refusalReason));
    }

    private static void noRefusalSoFar(Function<CourierBags, ?> call) {
        refused(ELEMENT, States::empty, call);
        refused(ELEMENT, CourierBagsCommandEdgesTest::failedOtherwise, call);
        refused(ELEMENT, CourierBagsCommandEdgesTest::small, call);
    }

    /** Packings that failed, but were not refused; and refused ones that no pack was called for. */
    private static CourierBags failedOtherwise() {
        CourierBags x = small();
        x.pack(0, 0);
        throwing(ELEMENT, () -> x.pack(4, 0));
        throwing(INDEX, () -> x.pack(1, 1));
        throwing(STATE, () -> x.pack(0, 0));
        is(false, x.canPack(1, 0));
        is(0, x.autoPack(0));
        runFails(STATE, x, "fill 0;pack 4 0");
        runFails(STATE, x, "pack 0 0");
        runFails(STATE, x, "pack 1 1");
        runFails(STATE, x, "item 1 6 1;fill 0;drop 0");
        runFails(ARGUMENT, x, "pack 1 0;");
        return x;
    }

    private static void refusedItem() {
        promise(40);
        sentence("Returns the item of the last refusal.", () -> {
            CourierBags x = small();
            for (int id : new int[] {1, 2, 1}) {
                throwing(REFUSED, () -> x.pack(id, 0));
                is(id, x.refusedItem());
            }
            x.pack(0, 0);
            runFails(STATE, x, "unpack 0;pack 0 0;pack 3 0;pack 1 0");
            is(3, x.refusedItem());
            CourierBags first = States.withBags(1);
            first.addItem(1, 2, 1, false);
            throwing(REFUSED, () -> first.pack(0, 0));
            is(0, first.refusedItem());
        });
        sentence("Returns the id that the item had.", () -> {
            CourierBags x = small();
            throwing(REFUSED, () -> x.pack(2, 0));
            x.removeItem(2);
            is("2 false", x.refusedItem() + " " + x.exists(2));
            runFails(STATE, x, "item 1 6 1;pack 4 0");
            is("4 false", x.refusedItem() + " " + x.exists(4));
            is(4, x.addItem(1, 1, 1, false));
            is(4, x.refusedItem());
            throwing(ELEMENT, () -> x.pack(5, 0));
            is(4, x.refusedItem());
        });
        sentence("Throws `NoSuchElementException` if no packing was refused so far",
                () -> noRefusalSoFar(CourierBags::refusedItem));
    }

    // ---- label

    private static void writeLabel() {
        promise(41);
        sentence("Writes the label of a bag, in place of the label before: for each layer from the top to the bottom, "
                + "\"[\", the ids of its items in order, separated by blanks, with \"!\" behind the id of a fragile item, "
                + "and \"]\"; as in \"[4 7!][0]\".", CourierBagsCommandEdgesTest::labels);
        sentence("The label of an empty bag is empty.", () -> {
            CourierBags x = States.full();
            is(0, x.writeLabel(States.EMPTY_BAG));
            is("", States.labelAsItStands(x));
            throwing(INDEX, () -> x.labelAt(0));
            x.unpack(9);
            x.unpack(10);
            is(0, x.writeLabel(States.HEAVY_BAG));
        });
        sentence("`bag`: the bag", () -> {
            CourierBags x = States.full();
            x.pack(11, 2);
            is(States.LABEL, States.label(x, 0));
            is("[9 10]", States.label(x, 1));
            is("[11]", States.label(x, 2));
            unchanged(States::full, y -> y.writeLabel(1), "label");
        });
        sentence("Returns the length of the label.", () -> {
            CourierBags x = States.full();
            is("20 6 0", x.writeLabel(0) + " " + x.writeLabel(1) + " " + x.writeLabel(2));
            is("20 20", x.writeLabel(0) + " " + x.writeLabel(0));
        });
        sentence("Throws `IndexOutOfBoundsException` if there is no such bag", () -> noSuchBag(CourierBags::writeLabel));
    }

    private static void labels() {
        CourierBags x = States.withBags(99, 99);
        x.addItem(3, 1, 9, false);
        for (int id = 1; id < 8; id++) {
            x.addItem(id == 4 ? 9 : 1, 1, 9, id == 7);
        }
        x.pack(0, 0);
        is("[0]", States.label(x, 0));
        x.pack(4, 0);
        x.pack(7, 0);
        is("[4 7!][0]", States.label(x, 0));
        x.pack(5, 1);
        is("[5]", States.label(x, 1));
        x.unpack(7);
        is("[5]", States.labelAsItStands(x));
        is("[4][0]", States.label(x, 0));
        CourierBags ids = States.withBags(99);
        for (int id = 0; id <= 101; id++) {
            ids.addItem(1, 1, 9, id % 2 == 0);
            if (id < 9 || id > 10 && id < 99) {
                ids.removeItem(id);
            } else {
                ids.pack(id, 0);
            }
        }
        is("[9 10! 99 100! 101]", States.label(ids, 0));
        CourierBags all = States.withBags(99);
        for (int id = 0; id < 12; id++) {
            all.addItem(2, 1, 9, id < 4);
        }
        is(12, all.autoPack(0));
        is("[10 11][5 6 7 8 9][0! 1! 2! 3! 4]", States.label(all, 0));
    }

    private static void labelAt() {
        promise(42);
        sentence("Returns a character of the label, which is empty at first.", "Returns the character.", () -> {
            throwing(INDEX, () -> States.empty().labelAt(0));
            throwing(INDEX, () -> small().labelAt(0));
            CourierBags x = States.full();
            for (int index = 0; index < States.LABEL.length(); index++) {
                is(States.LABEL.charAt(index), x.labelAt(index));
            }
        });
        sentence("`index`: index of the character, from 0", () -> {
            CourierBags x = States.full();
            is("[ ]", x.labelAt(0) + " " + x.labelAt(19));
            x.writeLabel(1);
            is("[ ]", x.labelAt(0) + " " + x.labelAt(5));
            throwing(INDEX, () -> x.labelAt(6));
            throwing(INDEX, () -> x.labelAt(19));
        });
        sentence("Throws `IndexOutOfBoundsException` if there is no such character", () -> {
            for (int index : new int[] {LEAST, -1, 20, 21, MOST}) {
                refused(INDEX, States::full, x -> x.labelAt(index));
            }
            for (int index : new int[] {LEAST, -1, 0, 1, MOST}) {
                refused(INDEX, States::empty, x -> x.labelAt(index));
            }
        });
    }

    // ---- commands

    private static void type() {
        promise(43);
        sentence("Appends a character to the buffer.", () -> {
            CourierBags x = new CourierBags();
            States.write(x, "bag 1");
            x.type('2');
            x.execute();
            is(12, x.limitOf(0));
            unchanged(States::full, y -> y.type('~'), "buffer");
        });
        sentence("`character`: the character", () -> {
            CourierBags x = new CourierBags();
            for (char character = 32; character <= 126; character++) {
                CourierBags y = character < 92 ? x : States.empty();
                is(character < 92 ? character - 31 : 1, y.type(character));
            }
        });
        sentence("Returns the number of characters in the buffer.", () -> {
            CourierBags x = new CourierBags();
            for (int count = 1; count <= 60; count++) {
                is(count, x.type(' '));
            }
            throwing(ARGUMENT, x::execute);
            is(1, x.type(' '));
            is(8, States.full().type(' '));
        });
        sentence("Throws `IllegalArgumentException` if the character is not from 32 to 126", () -> {
            for (int code : new int[] {0, 9, 10, 30, 31, 127, 128, 160, 255, 256, 32767, 32768, 65535}) {
                refused(ARGUMENT, States::empty, x -> x.type((char) code));
                refused(ARGUMENT, States::full, x -> x.type((char) code));
                refused(ARGUMENT, States::withFullBuffer, x -> x.type((char) code));
            }
            is("1 1", States.empty().type((char) 32) + " " + States.empty().type((char) 126));
        });
        sentence("Throws `IllegalStateException` if the buffer contains 60 characters", () -> {
            refused(STATE, States::withFullBuffer, x -> x.type(' '));
            refused(STATE, States::withFullBuffer, x -> x.type('~'));
            CourierBags x = new CourierBags();
            States.write(x, "bag 1;bag 1;bag 1;fill 0;fill 0;fill 0;fill 0;fill 0;fill 0");
            is(60, x.type(';'));
            throwing(STATE, () -> x.type('f'));
        });
    }

    private static void execute() {
        promise(44);
        sentence("Executes the program in the buffer, all commands of it or none, and empties the buffer.", () -> {
            CourierBags x = new CourierBags();
            is(3, States.run(x, "bag 1;bag 2;bag 3"));
            is("3 1 3", x.bagCount() + " " + x.limitOf(0) + " " + x.limitOf(2));
            is(1, x.type('b'));
            runFails(ARGUMENT, x, "ag");
            is(1, x.type('i'));
            runFails(STATE, x, "tem 1 1 1;bag 1");
            is(0, x.itemCount());
            is(1, x.type('i'));
            CourierBags none = States.full();
            String before = States.state(none);
            runFails(STATE, none, ";unpack 8;unpack 7;drop 7;deliver;fill 0;drop 99");
            is(before + 6, States.state(none) + none.failedCommand());
        });
        sentence("Returns the number of commands.", () -> {
            is(1, States.run(new CourierBags(), "bag 1"));
            is(1, States.full().execute());
            is(2, States.run(new CourierBags(), "bag 1;bag 99"));
            is(8, States.run(States.withBags(9), "fill 0" + ";fill 0".repeat(7)));
            is(9, States.run(new CourierBags(), "bag 1;bag 1;bag 1" + ";fill 0".repeat(6)));
        });
    }

    private static void executeThrows() {
        String malformed = "Throws `IllegalArgumentException` if the program is malformed; its error position is stored";
        sentence(malformed, () -> {
            refused(ARGUMENT, States::empty, CourierBags::execute, "error position");
            refused(ARGUMENT, States::withMalformedProgram, CourierBags::execute, "buffer", "error position");
            refused(ARGUMENT, States::withFullBuffer, CourierBags::execute, "buffer", "error position");
            CourierBags x = new CourierBags();
            throwing(ARGUMENT, x::execute);
            is(0, x.errorPosition());
            CourierBags y = States.withMalformedProgram();
            throwing(ARGUMENT, y::execute);
            is("8 1", y.errorPosition() + " " + y.type('b'));
            CourierBags z = States.withFullBuffer();
            throwing(ARGUMENT, z::execute);
            is("60 1 1", z.errorPosition() + " " + z.failedCommand() + " " + z.type('b'));
        });
        String failing = "Throws `IllegalStateException` if the method of a command throws an exception; the index of the "
                + "command is stored, and the refusal, if it is a refused packing";
        sentence(failing, () -> {
            refused(STATE, States::withFailingProgram, CourierBags::execute, "buffer", "refusal", "failed command");
            CourierBags x = States.withFailingProgram();
            throwing(STATE, x::execute);
            is("2 1 12 1", x.failedCommand() + " " + x.refusalReason() + " " + x.refusedItem() + " " + x.type('b'));
            eachCommandFails();
        });
    }

    /** For each exception of each method that a command calls: its index is stored, and no refusal but of a packing. */
    private static void eachCommandFails() {
        String[] failing = {"bag 0", "bag 00", "bag 1", "item 0 1 1", "item 11 1 1", "item 1 0 1", "item 1 21 1", "item 1 1 0",
            "item 1 1 31", "drop 1", "drop 14", "drop 2", "pack 14 0", "pack 13 3", "pack 2 9", "pack 2 1", "unpack 1",
            "unpack 14", "unpack 11", "unpack 2", "fill 3", "fill 9"};
        for (String command : failing) {
            isFailing(command, 0);
            isFailing("unpack 8;" + command, 1);
            isFailing(command + ";bag 0", 0);
        }
        isFailing("deliver;deliver;deliver;deliver;deliver;deliver", 5);
        isFailing("drop 13;item 1 1 1;item 1 1 1", 2);
        CourierBags x = new CourierBags();
        runFails(STATE, x, "deliver");
        is(0, x.failedCommand());
    }

    private static void isFailing(String text, int index) {
        CourierBags x = States.withMalformedProgram();
        throwing(ARGUMENT, x::execute);
        String before = States.state(x);
        runFails(STATE, x, text);
        is(text + index, text + x.failedCommand());
        is(before, States.state(x));
        is(CourierBags.TOO_HEAVY + " 12 8", States.refusal(x) + " " + x.errorPosition());
    }

    private static void errorPosition() {
        promise(45);
        sentence("Returns the error position of the last malformed program.", "Returns the error position.", () -> {
            CourierBags x = new CourierBags();
            throwing(ARGUMENT, x::execute);
            is(0, x.errorPosition());
            String[] texts = {"x", "b", "bag", "bag ", "bag 1;", "bag 100", "bag 1;bag 2;deliver!",
                "item 10 20 30!;item 10 20 30!;item 10 20 30!;item 10 20 30!;", "item 10 20 30!;item 10 20 30!;item 10 20 30!;"
                + "item 10 20 30!!", ""};
            int[] positions = {0, 1, 3, 4, 6, 6, 19, 60, 59, 0};
            for (int index = 0; index < texts.length; index++) {
                int at = index;
                runFails(ARGUMENT, x, texts[at]);
                is(positions[at], x.errorPosition());
            }
            runFails(ARGUMENT, x, "bag");
            is(1, States.run(x, "bag 1"));
            is(3, x.errorPosition());
            runFails(STATE, x, "bag 0");
            is(3, x.errorPosition());
        });
        sentence("Throws `NoSuchElementException` if no program was malformed so far", () -> {
            refused(ELEMENT, States::empty, CourierBags::errorPosition);
            refused(ELEMENT, CourierBagsCommandEdgesTest::failedAndSucceeded, CourierBags::errorPosition);
        });
    }

    private static CourierBags failedAndSucceeded() {
        CourierBags x = new CourierBags();
        States.run(x, "bag 1");
        runFails(STATE, x, "bag 0");
        States.write(x, "bag");
        return x;
    }

    private static void failedCommand() {
        promise(46);
        sentence("Returns the index of the last command that failed.", () -> {
            CourierBags x = new CourierBags();
            runFails(STATE, x, "bag 1;bag 2;bag 0");
            is(2, x.failedCommand());
            runFails(STATE, x, "bag 0;bag 0");
            is(0, x.failedCommand());
            runFails(STATE, x, "bag 1;bag 0");
            is(1, x.failedCommand());
            runFails(ARGUMENT, x, "bag 0;bag 0;");
            is(1, x.failedCommand());
            is(1, States.run(x, "bag 1"));
            is(1, x.failedCommand());
            throwing(ARGUMENT, () -> x.addBag(0));
            is(1, x.failedCommand());
        });
        sentence("Returns the index in its program, from 0.", () -> {
            CourierBags x = new CourierBags();
            runFails(STATE, x, "deliver");
            is(0, x.failedCommand());
            String longest = "bag 1;bag 1;bag 1;fill 0;fill 0;fill 0;fill 0;fill 0;deliver";
            is(60, longest.length());
            runFails(STATE, x, longest);
            is("8 0", x.failedCommand() + " " + x.bagCount());
        });
        sentence("Throws `NoSuchElementException` if no command failed so far", () -> {
            refused(ELEMENT, States::empty, CourierBags::failedCommand);
            refused(ELEMENT, CourierBagsCommandEdgesTest::malformedAndSucceeded, CourierBags::failedCommand);
        });
    }

    private static CourierBags malformedAndSucceeded() {
        CourierBags x = new CourierBags();
        States.run(x, "bag 1");
        runFails(ARGUMENT, x, "bag 0;");
        throwing(ARGUMENT, () -> x.addBag(0));
        States.write(x, "bag 0");
        return x;
    }

    // ---- undo and snapshots

    private static void undo() {
        promise(47);
        sentence("Undoes the last modification that can be undone.", () -> {
            CourierBags x = States.full();
            String[] labels = {"[9]", "", "", "", "", "", "", ""};
            String[] high = {States.LABEL, States.LABEL, "[7!][6][5][2 3 4]", "[6][5][2 3 4]", "[5][2 3 4]", "[2 3 4]", "[2 3]",
                "[2]"};
            for (int step = 0; step < 8; step++) {
                x.undo();
                is(labels[step] + high[step], States.label(x, 1) + States.label(x, 0));
            }
            throwing(STATE, x::undo);
            is("[2]", States.label(x, 0));
        });
        sentence("Returns the number of modifications that can still be undone.", () -> {
            CourierBags x = States.full();
            for (int left = 7; left >= 0; left--) {
                is(left, x.undo());
            }
            x.removeItem(11);
            is(0, x.undo());
        });
        sentence("Throws `IllegalStateException` if there is none", () -> {
            refused(STATE, States::empty, CourierBags::undo);
            refused(STATE, CourierBagsCommandEdgesTest::allUndone, CourierBags::undo);
            refused(STATE, CourierBagsCommandEdgesTest::restored, CourierBags::undo);
        });
    }

    private static CourierBags allUndone() {
        CourierBags x = States.full();
        for (int step = 0; step < 8; step++) {
            x.undo();
        }
        return x;
    }

    private static CourierBags restored() {
        CourierBags x = States.full();
        x.restore();
        return x;
    }

    private static void save() {
        promise(48);
        sentence("Saves the state as a snapshot, which replaces an earlier one.", () -> {
            CourierBags x = States.full();
            String saved = States.state(x);
            x.save();
            x.deliver();
            x.restore();
            is(saved, States.state(x));
            x.deliver();
            x.save();
            x.deliver();
            x.restore();
            is("2 13 11", x.deliveredCount() + " " + x.deliveredWeight() + " " + x.itemCount());
            unchanged(States::full, CourierBags::save, "snapshot");
            limitsOfTheSnapshot();
            CourierBags empty = new CourierBags();
            is(0, empty.save());
            empty.addBag(1);
            empty.addItem(1, 1, 1, false);
            is(0, empty.restore());
            is("0 0", empty.bagCount() + " " + empty.itemCount());
        });
        sentence("Returns the number of items.", () -> {
            is("0 12 4", States.empty().save() + " " + States.full().save() + " " + small().save());
        });
    }

    /** Bags of other limits, made behind an undo, in the place of those that were saved. */
    private static void limitsOfTheSnapshot() {
        CourierBags x = States.withBags(1, 50, 99);
        x.save();
        for (int left = 2; left >= 0; left--) {
            is(left, x.undo());
        }
        for (int limit : new int[] {4, 5, 6}) {
            x.addBag(limit);
        }
        x.restore();
        is("1 50 99", x.limitOf(0) + " " + x.limitOf(1) + " " + x.limitOf(2));
    }

    private static void restore() {
        promise(49);
        sentence("Restores the snapshot, which is kept.", () -> {
            CourierBags x = States.full();
            x.restore();
            String saved = States.state(x);
            is("0 2 1 5", x.itemCount() + " " + x.bagCount() + " " + x.deliveredCount() + " " + x.deliveredWeight());
            for (int time = 0; time < 3; time++) {
                is(2, x.addItem(1, 1, 1, false));
                is(1, x.autoPack(0));
                x.deliver();
                x.addBag(1);
                is(0, x.restore());
                is(saved, States.state(x));
            }
            unchanged(CourierBagsCommandEdgesTest::restored, CourierBags::restore);
            for (String aspect : LEFT_ALONE) {
                is(States.aspects(States::full).get(aspect), States.aspects(CourierBagsCommandEdgesTest::restored).get(aspect));
            }
        });
        sentence("Afterwards nothing can be undone.", () -> {
            CourierBags x = restored();
            throwing(STATE, x::undo);
            x.addBag(1);
            is(0, x.undo());
            throwing(STATE, x::undo);
            x.addBag(1);
            x.save();
            x.restore();
            throwing(STATE, x::undo);
            is(3, x.bagCount());
        });
        sentence("Returns the number of items.", () -> {
            CourierBags x = States.full();
            is(0, x.restore());
            CourierBags y = States.full();
            y.save();
            y.deliver();
            is(12, y.restore());
            CourierBags z = small();
            z.save();
            z.removeItem(0);
            z.autoPack(0);
            is(4, z.restore());
        });
        sentence("Throws `IllegalStateException` if there is no snapshot", () -> {
            refused(STATE, States::empty, CourierBags::restore);
            refused(STATE, CourierBagsCommandEdgesTest::small, CourierBags::restore);
            CourierBags x = small();
            x.undo();
            throwing(STATE, x::restore);
            is(3, x.undo());
        });
    }
}
