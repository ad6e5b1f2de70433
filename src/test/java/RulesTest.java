import java.lang.reflect.Array;
import java.lang.reflect.Constructor;
import java.lang.reflect.Field;
import java.lang.reflect.Method;
import java.lang.reflect.Modifier;
import java.nio.charset.StandardCharsets;
import java.nio.file.Files;
import java.nio.file.Path;
import java.util.ArrayDeque;
import java.util.ArrayList;
import java.util.Collections;
import java.util.IdentityHashMap;
import java.util.List;
import java.util.Set;
import java.util.TreeSet;

/** Those rules of LANGUAGE.md that the compiled class and the form of its source show. The second argument is its path. */
public final class RulesTest {
    private static final int MOST_CLASSES = 12;
    private static final int MOST_FIELDS = 20;
    private static final int MOST_PARAMETERS = 7;
    private static final int MOST_LINES = 60;

    /** Far below the room, so that a run may hold a hundred indexes. */
    private static final int MOST_OBJECTS = 1_000;
    private static final int MOST_ELEMENTS = 20_000;

    public static void main(String[] args) throws Exception {
        List<Class<?>> classes = new ArrayList<>();
        collect(PrefixCodeIndex.class, classes);
        Check.about("rule 11: the number of classes");
        Check.answers(true, () -> classes.size() <= MOST_CLASSES);
        for (Class<?> type : classes) {
            checkClass(type);
            checkFields(type);
            checkMethods(type);
        }
        checkLines(Files.readString(Path.of(args[1]), StandardCharsets.UTF_8).split("\n"));
        checkRoom();
        Check.finish();
    }

    private static void collect(Class<?> type, List<Class<?>> classes) {
        classes.add(type);
        for (Class<?> inner : type.getDeclaredClasses()) {
            collect(inner, classes);
        }
    }

    private static void checkClass(Class<?> type) {
        if (type == PrefixCodeIndex.class) {
            return;
        }
        int modifiers = type.getModifiers();
        Check.about("rule 1: " + type.getName() + " is static and not open");
        Check.answers(true, () -> Modifier.isStatic(modifiers)
                && !Modifier.isPublic(modifiers) && !Modifier.isProtected(modifiers));
    }

    private static void checkFields(Class<?> type) {
        int own = 0;
        for (Field field : type.getDeclaredFields()) {
            boolean isStatic = Modifier.isStatic(field.getModifiers());
            own += isStatic ? 0 : 1;
            String typeName = field.getType().getSimpleName();
            Check.about("rules 3 and 5: the field " + type.getName() + "." + field.getName());
            Check.answers(true, () -> isStatic
                    ? Modifier.isFinal(field.getModifiers()) && typeName.matches("int|long|boolean|char|String|(int|long|char|byte)\\[\\]")
                    : isAllowed(field.getType()));
        }
        int fields = own;
        Check.about("rule 11: the number of fields of " + type.getName());
        Check.answers(true, () -> fields <= MOST_FIELDS);
    }

    private static boolean isAllowed(Class<?> type) {
        if (type.isArray()) {
            Class<?> inner = type.getComponentType();
            return isAllowed(inner) && (!inner.isArray() || inner.getComponentType().isPrimitive());
        }
        return type.isPrimitive() || type == String.class || type == StringBuilder.class
                || type.getName().startsWith("PrefixCodeIndex$");
    }

    private static void checkMethods(Class<?> type) {
        Set<String> face = new TreeSet<>();
        for (Method method : PrefixCodeIndex.class.getDeclaredMethods()) {
            if (Modifier.isPublic(method.getModifiers())) {
                face.add(method.getName());
            }
        }
        for (Method method : type.getDeclaredMethods()) {
            String name = type.getName() + "." + method.getName();
            Check.about("rule 1: the name " + name);
            Check.answers(true, () -> Modifier.isPublic(method.getModifiers()) || !face.contains(method.getName()));
            Check.about("rule 2: no lambda, " + name);
            Check.answers(false, () -> method.isSynthetic());
            Check.about("rule 11: the parameters of " + name);
            Check.answers(true, () -> method.getParameterCount() <= MOST_PARAMETERS);
        }
        for (Constructor<?> constructor : type.getDeclaredConstructors()) {
            Check.about("rule 6: no throw in a constructor of " + type.getName());
            Check.answers(0, () -> constructor.getExceptionTypes().length);
        }
    }

    /** A block that opens at the indentation of methods ends with the next brace at the same indentation. */
    private static void checkLines(String[] lines) {
        for (String indentation : new String[] {"    ", "        "}) {
            int start = -1;
            for (int i = 0; i < lines.length; i++) {
                String line = lines[i];
                if (line.matches(indentation + "\\S.*\\{") && !line.contains(" class ")) {
                    start = i;
                } else if (line.equals(indentation + "}") && start >= 0) {
                    int length = i - start + 1;
                    Check.about("rule 11: the length of the block that begins with " + lines[start].strip());
                    Check.answers(true, () -> length <= MOST_LINES);
                    start = -1;
                }
            }
        }
    }

    private static void checkRoom() throws IllegalAccessException {
        Set<Object> met = Collections.newSetFromMap(new IdentityHashMap<>());
        ArrayDeque<Object> open = new ArrayDeque<>();
        open.add(new PrefixCodeIndex());
        int elements = 0;
        while (!open.isEmpty()) {
            Object next = open.remove();
            if (met.add(next)) {
                elements += open(next, open);
            }
        }
        int counted = elements;
        Check.about("rule 12: the objects of a new index");
        Check.answers(true, () -> met.size() <= MOST_OBJECTS);
        Check.about("rule 12: the fields and elements of a new index");
        Check.answers(true, () -> counted <= MOST_ELEMENTS);
    }

    /** Adds what the object holds, and answers how many fields or elements that are. */
    private static int open(Object holder, ArrayDeque<Object> open) throws IllegalAccessException {
        if (holder.getClass().isArray()) {
            int length = Array.getLength(holder);
            for (int i = 0; i < length && !holder.getClass().getComponentType().isPrimitive(); i++) {
                open.add(Array.get(holder, i));
            }
            return length;
        }
        int fields = 0;
        for (Field field : holder.getClass().getDeclaredFields()) {
            if (!Modifier.isStatic(field.getModifiers())) {
                fields++;
                field.setAccessible(true);
                if (!field.getType().isPrimitive()) {
                    open.add(field.get(holder));
                }
            }
        }
        return fields;
    }
}
