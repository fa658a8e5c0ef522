import java.lang.reflect.Constructor;
import java.lang.reflect.Field;
import java.lang.reflect.Method;
import java.lang.reflect.Modifier;
import java.nio.file.Files;
import java.nio.file.Path;
import java.util.ArrayList;
import java.util.Arrays;
import java.util.List;
import java.util.TreeSet;
import java.util.stream.Collectors;

/** Compares the public face with the document's, and looks in the source for what LANGUAGE.md rules out. */
public final class CourierBagsFaceTest {
    private static final Path DOCUMENT = Path.of("../shared/DOC.md");
    private static final Path SOURCE = Path.of("src/main/java/CourierBags.java");
    private static int wrong = 0;

    public static void main(String[] args) throws Exception {
        compareFaces();
        checkMembers();
        checkSource();
        System.out.println(wrong == 0 ? "the face is the document's" : wrong + " faults in the face or the source");
        if (wrong != 0) {
            System.exit(1);
        }
    }

    private static void fault(String text) {
        wrong++;
        System.out.println(text);
    }

    private static void compareFaces() throws Exception {
        TreeSet<String> want = documentedFace();
        TreeSet<String> got = realFace();
        if (want.size() < 50) {
            fault("the document's face was not found");
        }
        want.stream().filter(line -> !got.contains(line)).forEach(line -> fault("missing: " + line));
        got.stream().filter(line -> !want.contains(line)).forEach(line -> fault("not in the document: " + line));
    }

    private static TreeSet<String> documentedFace() throws Exception {
        TreeSet<String> face = new TreeSet<>();
        for (String line : Files.readAllLines(DOCUMENT)) {
            if (line.startsWith("    public ") && line.endsWith(";")) {
                String text = line.trim().replace(";", "");
                // Reflection tells no names of parameters.
                face.add(text.replaceAll("(\\(|, )(int|char|boolean) \\w+", "$1$2"));
            }
        }
        return face;
    }

    private static TreeSet<String> realFace() throws Exception {
        TreeSet<String> face = new TreeSet<>();
        for (Field field : CourierBags.class.getDeclaredFields()) {
            if (Modifier.isPublic(field.getModifiers())) {
                face.add(Modifier.toString(field.getModifiers()) + " " + field.getType() + " " + field.getName() + " = "
                        + field.get(null));
            }
        }
        for (Constructor<?> constructor : CourierBags.class.getDeclaredConstructors()) {
            face.add("public " + constructor.getName() + names(constructor.getParameterTypes(), "(", ")"));
        }
        for (Method method : CourierBags.class.getDeclaredMethods()) {
            if (Modifier.isPublic(method.getModifiers())) {
                face.add("public " + method.getReturnType() + " " + method.getName()
                        + names(method.getParameterTypes(), "(", ")")
                        + (method.getExceptionTypes().length == 0 ? "" : names(method.getExceptionTypes(), " throws ", "")));
            }
        }
        return face;
    }

    private static String names(Class<?>[] types, String before, String after) {
        return Arrays.stream(types).map(Class::getSimpleName).collect(Collectors.joining(", ", before, after));
    }

    private static void checkMembers() {
        List<String> publicNames = new ArrayList<>();
        for (Method method : CourierBags.class.getDeclaredMethods()) {
            if (Modifier.isPublic(method.getModifiers())) {
                publicNames.add(method.getName());
            }
        }
        for (Method method : CourierBags.class.getDeclaredMethods()) {
            if (!Modifier.isPublic(method.getModifiers()) && publicNames.contains(method.getName())) {
                fault("a hidden method bears a public name: " + method);
            }
            if (!Modifier.isPublic(method.getModifiers()) && !Modifier.isPrivate(method.getModifiers())) {
                fault("neither public nor private: " + method);
            }
        }
        for (Field field : CourierBags.class.getDeclaredFields()) {
            if (!Modifier.isPublic(field.getModifiers()) && !Modifier.isPrivate(field.getModifiers())) {
                fault("neither public nor private: " + field);
            }
        }
        if (!Modifier.isFinal(CourierBags.class.getModifiers())) {
            fault("the class is not final");
        }
    }

    private static void checkSource() throws Exception {
        String source = Files.readString(SOURCE).replaceAll("(?s)/\\*.*?\\*/", "").replaceAll("//[^\n]*", "")
                .replaceAll("\"[^\"\n]*\"", "\"\"");
        String[] ruledOut = {"\\bpackage\\b", "\\btry\\b", "\\bcatch\\b", "\\bfinally\\b", "\\bsynchronized\\b", "\\bassert\\b",
            "->", "::", "\\bSystem\\.(?!arraycopy)", "\\bnull\\b", "\\bnew Thread", "\\bequals\\b", "\\bhashCode\\b",
            "\\btoString\\b", "\\bprotected\\b", "\\bstatic \\{", "[^\\x00-\\x7f]"};
        for (String pattern : ruledOut) {
            if (java.util.regex.Pattern.compile(pattern).matcher(source).find()) {
                fault("in the source stands what matches " + pattern);
            }
        }
        List<String> imports = source.lines().filter(line -> line.startsWith("import ")).collect(Collectors.toList());
        if (!imports.equals(List.of("import java.util.NoSuchElementException;"))) {
            fault("imports: " + imports);
        }
    }
}
