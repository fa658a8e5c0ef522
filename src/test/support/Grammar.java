import java.util.ArrayList;
import java.util.Arrays;
import java.util.List;

/** The grammar of a program, as the list of all commands, with a "#" in the place of each digit. */
final class Grammar {
    static final int NONE = -1;
    private static final List<String> COMMANDS = commands();

    private Grammar() {
    }

    private static List<String> commands() {
        List<String> all = new ArrayList<>(List.of("deliver", "fill #"));
        List<String> numbers = List.of("#", "##");
        for (String first : numbers) {
            all.addAll(List.of("bag " + first, "drop " + first, "unpack " + first, "pack " + first + " #"));
            for (String second : numbers) {
                for (String third : numbers) {
                    String item = "item " + first + " " + second + " " + third;
                    all.addAll(List.of(item, item + "!"));
                }
            }
        }
        return all;
    }

    private static List<String> parts(String text) {
        return Arrays.asList(text.replace('#', '?').replaceAll("[0-9]", "#").split(";", -1));
    }

    static boolean isProgram(String text) {
        return COMMANDS.containsAll(parts(text));
    }

    static boolean beginsProgram(String text) {
        List<String> parts = parts(text);
        String last = parts.get(parts.size() - 1);
        return COMMANDS.containsAll(parts.subList(0, parts.size() - 1))
                && COMMANDS.stream().anyMatch(command -> command.startsWith(last));
    }

    /** The error position, or NONE. */
    static int firstWrong(String text) {
        if (isProgram(text)) {
            return NONE;
        }
        int length = 0;
        while (length < text.length() && beginsProgram(text.substring(0, length + 1))) {
            length++;
        }
        return length;
    }
}
