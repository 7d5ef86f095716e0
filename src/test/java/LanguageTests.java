import java.lang.reflect.Constructor;
import java.lang.reflect.Field;
import java.lang.reflect.Method;
import java.lang.reflect.Modifier;
import java.nio.file.Files;
import java.nio.file.Path;
import java.util.ArrayList;
import java.util.HashSet;
import java.util.List;
import java.util.Set;
import java.util.regex.Matcher;
import java.util.regex.Pattern;

/** The rules of ../shared/LANGUAGE.md, as far as they can be seen in the program's text and in its classes. */
public final class LanguageTests extends Checks {
    private static final Path PROGRAM = Path.of("src/main/java/IntervalTape.java");
    private static final List<Class<?>> CONSTANTS = List.of(int.class, long.class, boolean.class, char.class,
        String.class, int[].class, long[].class, char[].class, byte[].class);
    private static final List<String> LIBRARY = List.of("java.lang.String", "java.lang.StringBuilder",
        "java.util.ArrayList", "java.util.List");
    // Of what is listed this is what the program uses: what comes new has to be looked up there first.
    private static final List<String> FUNCTIONS = List.of("Arrays.copyOf", "Math.abs", "Math.min", "Math.max",
        "Math.floorDiv", "Long.compare", "Long.signum", "Long.MAX_VALUE", "Long.MIN_VALUE", "Integer.compare",
        "Integer.numberOfLeadingZeros");
    private static final int MOST_PARAMETERS = 7, MOST_LINES = 60, MOST_CLASSES = 12, MOST_FIELDS = 20;

    private static void dueTrue(String what, boolean holds) {
        due(what, holds ? 1 : 0, 1);
    }

    /** The program without its comments, and with nothing between quotes. */
    private static String bare(String text) {
        Pattern pieces = Pattern.compile("\"(?:\\\\.|[^\"\\\\])*\"|'(?:\\\\.|[^'\\\\])*'|//[^\\n]*|/\\*.*?\\*/", Pattern.DOTALL);
        Matcher piece = pieces.matcher(text);
        StringBuilder bare = new StringBuilder();
        while (piece.find()) {
            char first = piece.group().charAt(0);
            piece.appendReplacement(bare, first == '/' ? " " : first + "" + first);
        }
        return piece.appendTail(bare).toString();
    }

    private static List<Class<?>> classes() {
        List<Class<?>> classes = new ArrayList<>(List.of(IntervalTape.class));
        for (int i = 0; i < classes.size(); i++) classes.addAll(List.of(classes.get(i).getDeclaredClasses()));
        return classes;
    }

    private static void names() {
        sentence("rule 1: no private method bears the name of a public one");
        Set<String> face = new HashSet<>();
        for (Method method : IntervalTape.class.getDeclaredMethods()) {
            if (Modifier.isPublic(method.getModifiers())) face.add(method.getName());
        }
        for (Class<?> type : classes()) {
            for (Method method : type.getDeclaredMethods()) {
                if (Modifier.isPrivate(method.getModifiers())) dueTrue(method.toString(), !face.contains(method.getName()));
            }
        }
    }

    private static void classesInside() {
        sentence("rules 1, 2, 11: the classes inside are static and not public, and few");
        dueTrue("number of classes", classes().size() <= MOST_CLASSES);
        for (Class<?> type : classes()) {
            if (type == IntervalTape.class) continue;
            int modifiers = type.getModifiers();
            dueTrue(type + " static", Modifier.isStatic(modifiers));
            dueTrue(type + " not public", !Modifier.isPublic(modifiers) && !Modifier.isProtected(modifiers));
        }
    }

    private static boolean isAllowed(Class<?> type) {
        Class<?> part = type.isArray() ? type.getComponentType() : type;
        if (part.isArray()) return part.getComponentType().isPrimitive();
        return part.isPrimitive() || classes().contains(part) || LIBRARY.contains(part.getName());
    }

    private static void fields() {
        sentence("rules 3, 5, 11: fields are of the types that are listed, few, and static ones are constants");
        for (Class<?> type : classes()) {
            int own = 0;
            for (Field field : type.getDeclaredFields()) {
                boolean fixed = Modifier.isStatic(field.getModifiers());
                if (fixed) dueTrue(field + " constant", Modifier.isFinal(field.getModifiers()) && CONSTANTS.contains(field.getType()));
                else dueTrue(field + " type", isAllowed(field.getType()));
                if (!fixed) own++;
            }
            dueTrue(type + " number of fields", own <= MOST_FIELDS);
        }
    }

    private static void parameters() {
        sentence("rule 11: a method takes at most seven parameters");
        for (Class<?> type : classes()) {
            for (Method method : type.getDeclaredMethods()) dueTrue(method.toString(), method.getParameterCount() <= MOST_PARAMETERS);
            for (Constructor<?> made : type.getDeclaredConstructors()) dueTrue(made.toString(), made.getParameterCount() <= MOST_PARAMETERS);
        }
    }

    private static void words(String bare) {
        sentence("rules 2, 6: words and signs that are ruled out");
        String[] out = {"throw", "throws", "try", "catch", "finally", "synchronized", "assert", "volatile", "native", "package",
            "hashCode", "Object", "Thread", "Random", "Scanner", "File", "Runtime", "Class"};
        for (String word : out) dueTrue(word, !Pattern.compile("\\b" + word + "\\b").matcher(bare).find());
        for (String sign : new String[] {"->", "::", "@", "static {"}) dueTrue(sign, !bare.contains(sign));
        dueTrue("a class made without a name", !Pattern.compile("new \\w+\\([^;]*\\)\\s*\\{").matcher(bare).find());
    }

    private static void library(String bare) {
        sentence("rule 4: the library: only what is listed");
        Matcher imported = Pattern.compile("import (.*);").matcher(bare);
        while (imported.find()) dueTrue(imported.group(1), List.of("java.util.ArrayList", "java.util.Arrays", "java.util.List").contains(imported.group(1)));
        Matcher used = Pattern.compile("\\b(?:System|Arrays|List|Math|Long|Integer|Character|Double|Float|Byte|Short|Boolean|String)\\.\\w+").matcher(bare);
        while (used.find()) dueTrue(used.group(), FUNCTIONS.contains(used.group()));
    }

    /** A method begins with a line of the class's own depth that ends with a brace, and ends with the next one there. */
    private static void lengths(List<String> lines) {
        sentence("rule 11: methods stay short");
        for (int i = 0; i < lines.size(); i++) {
            Matcher head = Pattern.compile("( {4}| {8})[a-zA-Z].*\\) \\{").matcher(lines.get(i));
            if (!head.matches()) continue;
            int end = i;
            while (end < lines.size() && !lines.get(end).equals(head.group(1) + "}")) end++;
            dueTrue(lines.get(i).trim(), end - i < MOST_LINES);
        }
    }

    public static void main(String[] args) throws Exception {
        String text = Files.readString(PROGRAM), bare = bare(text);
        names();
        classesInside();
        fields();
        parameters();
        words(bare);
        library(bare);
        lengths(Files.readAllLines(PROGRAM));
        finish();
    }
}
