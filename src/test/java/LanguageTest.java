import java.io.IOException;
import java.lang.reflect.Array;
import java.lang.reflect.Field;
import java.lang.reflect.Method;
import java.lang.reflect.Modifier;
import java.nio.charset.StandardCharsets;
import java.nio.file.Files;
import java.nio.file.Path;
import java.util.ArrayList;
import java.util.HashSet;
import java.util.IdentityHashMap;
import java.util.List;
import java.util.Map;
import java.util.Set;
import java.util.regex.Matcher;
import java.util.regex.Pattern;

/** What can be seen of the rules of LANGUAGE.md from the class and from its text. */
public final class LanguageTest {
    private static final Check CHECK = new Check("LanguageTest");
    private static final Path SOURCE = Path.of("src/main/java/BarCutting.java");
    private static final Set<String> LIBRARY = Set.of("Math.max", "Math.min", "System.arraycopy");
    private static final String[] NO_WORDS = {"package", "import", "protected", "throw", "throws", "try", "catch",
        "finally", "synchronized", "assert", "native", "volatile"};
    /** Far below the room that all calls of one run share, so that many objects have a place in it. */
    private static final int MOST_OBJECTS = 200, MOST_ELEMENTS = 3000;

    public static void main(String[] args) throws IOException, ReflectiveOperationException {
        String text = Files.readString(SOURCE, StandardCharsets.UTF_8);
        String code = withoutRemarks(text);
        words(code);
        library(code);
        lengthsOfMethods(text);
        List<Class<?>> classes = new ArrayList<>(List.of(BarCutting.class.getDeclaredClasses()));
        CHECK.due("rule 11: classes inside", classes.size() <= 11, true);
        classes.add(BarCutting.class);
        for (Class<?> type : classes) {
            fields(type);
            methods(type);
        }
        room();
        CHECK.end();
    }

    private static void words(String code) {
        for (String word : NO_WORDS) {
            CHECK.due("the word " + word, Pattern.compile("\\b" + word + "\\b").matcher(code).find(), false);
        }
        CHECK.due("rule 2: lambda", code.contains("->"), false);
        CHECK.due("rule 2: method reference", code.contains("::"), false);
        CHECK.due("rule 5: static initialiser", Pattern.compile("\\bstatic\\s*\\{").matcher(code).find(), false);
        CHECK.due("rule 3: characters", code.chars().allMatch(sign -> sign < 256), true);
    }

    private static void library(String code) {
        Matcher use = Pattern.compile("\\b([A-Z][a-z]\\w*\\.[a-z]\\w*)\\b").matcher(code);
        while (use.find()) {
            CHECK.due("rule 4: " + use.group(1), LIBRARY.contains(use.group(1)), true);
        }
    }

    /** A method begins with a row that ends in "{" and ends with a "}" that stands as far in. */
    private static void lengthsOfMethods(String text) {
        String[] rows = text.split("\n");
        for (int from = 0; from < rows.length; from++) {
            Matcher head = Pattern.compile("( +)[\\w\\[\\], ]+\\(.*\\) \\{").matcher(rows[from]);
            if (head.matches() && !rows[from].matches(" +(if|for|while|switch|else).*")) {
                int to = from;
                while (to < rows.length && !rows[to].equals(head.group(1) + "}")) {
                    to++;
                }
                CHECK.due("rule 11: rows of" + rows[from], to - from < 60, true);
            }
        }
    }

    private static void fields(Class<?> type) {
        int own = 0;
        for (Field field : type.getDeclaredFields()) {
            Class<?> kind = field.getType();
            if (Modifier.isStatic(field.getModifiers())) {
                CHECK.due("rule 5: " + field + " is final", Modifier.isFinal(field.getModifiers()), true);
                CHECK.due("rule 5: " + field + " is a number", kind == int.class || kind == long.class, true);
            } else {
                own++;
                Class<?> part = kind.isArray() ? kind.getComponentType() : kind;
                boolean fine = part.isPrimitive() || part.getEnclosingClass() == BarCutting.class;
                CHECK.due("rule 3: the type of " + field, fine, true);
            }
        }
        CHECK.due("rule 11: fields of " + type, own <= 20, true);
    }

    private static void methods(Class<?> type) {
        Set<String> face = new HashSet<>();
        for (Method method : BarCutting.class.getMethods()) {
            face.add(method.getName());
        }
        for (Method method : type.getDeclaredMethods()) {
            boolean isFace = type == BarCutting.class && Modifier.isPublic(method.getModifiers());
            CHECK.due("rule 1: the name of " + method, isFace || !face.contains(method.getName()), true);
            CHECK.due("rule 11: parameters of " + method, method.getParameterCount() <= 7, true);
        }
    }

    /** An object that holds as much as it may, and has cut by both rules. */
    private static void room() throws ReflectiveOperationException {
        BarCutting x = new BarCutting();
        for (int i = 0; i < 10; i++) {
            Maker.shape(x, "ALBRCUDLERF");
        }
        for (int i = 0; i < 12; i++) {
            Maker.line(x, i % 10, 4 + i, i < 6 ? 1 : 5, 100, 100, 100, 100, 100, 100);
        }
        for (int diameter = 4; diameter <= 40; diameter++) {
            x.stock(diameter, 30000, 20);
        }
        CHECK.due("run(4)", x.run(4), 12);
        CHECK.due("bound(1)", x.bound(1), 6);
        Map<Object, Boolean> seen = new IdentityHashMap<>();
        int elements = elementsOf(x, seen);
        System.out.println("LanguageTest: a full object is " + seen.size() + " objects, " + elements + " elements");
        CHECK.due("rule 12: objects", seen.size() <= MOST_OBJECTS, true);
        CHECK.due("rule 12: elements", elements <= MOST_ELEMENTS, true);
    }

    private static int elementsOf(Object at, Map<Object, Boolean> seen) throws ReflectiveOperationException {
        if (at == null || seen.put(at, true) != null) {
            return 0;
        }
        int count = 0;
        if (at.getClass().isArray()) {
            count += Array.getLength(at);
            for (int i = 0; i < Array.getLength(at) && !at.getClass().getComponentType().isPrimitive(); i++) {
                count += elementsOf(Array.get(at, i), seen);
            }
            return count;
        }
        for (Field field : at.getClass().getDeclaredFields()) {
            if (!Modifier.isStatic(field.getModifiers())) {
                count++;
                field.setAccessible(true);
                count += field.getType().isPrimitive() ? 0 : elementsOf(field.get(at), seen);
            }
        }
        return count;
    }

    private static String withoutRemarks(String text) {
        String code = Pattern.compile("/\\*.*?\\*/", Pattern.DOTALL).matcher(text).replaceAll(" ");
        return code.replaceAll("//[^\n]*", " ").replaceAll("'.'", "0");
    }
}
