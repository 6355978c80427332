import java.lang.management.ManagementFactory;
import java.lang.reflect.Constructor;
import java.lang.reflect.Field;
import java.lang.reflect.Method;
import java.lang.reflect.Modifier;
import java.util.Arrays;
import java.util.List;
import java.util.TreeSet;

/** The face of the class, as LANGUAGE.md wants it, and what the calls leave in memory. */
public final class Face {
    private static final List<String> METHODS = List.of(
            "int type(char) throws IllegalArgumentException IllegalStateException",
            "int line() throws IllegalStateException",
            "int length(int) throws IndexOutOfBoundsException",
            "char signAt(int int) throws IndexOutOfBoundsException",
            "int placeOf(int int) throws IndexOutOfBoundsException IllegalArgumentException",
            "int show(int int) throws IndexOutOfBoundsException IllegalStateException",
            "int refuse(int int) throws IndexOutOfBoundsException IllegalStateException",
            "int pin(int int int int int int) throws IndexOutOfBoundsException IllegalArgumentException"
                    + " IllegalStateException",
            "int learn(int) throws IndexOutOfBoundsException IllegalStateException",
            "int count(int) throws IndexOutOfBoundsException",
            "int weight(int int) throws IndexOutOfBoundsException",
            "int question(int) throws IndexOutOfBoundsException",
            "int condition(int) throws IndexOutOfBoundsException",
            "int atomAt(int boolean int int) throws IndexOutOfBoundsException IllegalArgumentException",
            "char preview(int int int) throws IndexOutOfBoundsException",
            "int run(int int int int) throws IndexOutOfBoundsException IllegalArgumentException IllegalStateException",
            "int runs()",
            "boolean undo(int) throws IndexOutOfBoundsException",
            "boolean stand(int boolean) throws IndexOutOfBoundsException IllegalStateException",
            "int asked()");
    private static final List<String> CONSTANTS = List.of("ASK", "CONST", "CUT", "EACH", "NONE", "SKIP", "STOP");
    /** A new object may take its share of the room, and all calls on it next to nothing of it. */
    private static final long MOST_BYTES_OF_NEW = 1_000_000;
    private static final long MOST_BYTES_OF_CALLS = 100_000;

    public static void main(String[] args) {
        methods();
        others();
        memory();
        Due.end();
    }

    private static String told(Method method) {
        StringBuilder told = new StringBuilder(method.getReturnType() + " " + method.getName() + "(");
        for (Class<?> type : method.getParameterTypes()) {
            told.append(told.charAt(told.length() - 1) == '(' ? "" : " ").append(type);
        }
        told.append(")");
        for (Class<?> type : method.getExceptionTypes()) {
            told.append(told.indexOf(" throws") < 0 ? " throws " : " ").append(type.getSimpleName());
        }
        return told.toString();
    }

    private static void methods() {
        TreeSet<String> shown = new TreeSet<>();
        TreeSet<String> names = new TreeSet<>();
        for (Method method : PatchbayScript.class.getDeclaredMethods()) {
            if (Modifier.isPublic(method.getModifiers())) {
                shown.add(told(method));
                names.add(method.getName());
            }
        }
        Due.is("the public methods", shown.toString(), new TreeSet<>(METHODS).toString());
        for (Method method : PatchbayScript.class.getDeclaredMethods()) {
            boolean isPublic = Modifier.isPublic(method.getModifiers());
            Due.is("whether " + method + " is private", Modifier.isPrivate(method.getModifiers()), !isPublic);
            Due.is("whether " + method + " bears a public name", names.contains(method.getName()), isPublic);
        }
    }

    private static void others() {
        Due.is("final", Modifier.isFinal(PatchbayScript.class.getModifiers()), true);
        Constructor<?>[] constructors = PatchbayScript.class.getDeclaredConstructors();
        Due.is("constructors", constructors.length, 1);
        Due.is("arguments of it", constructors[0].getParameterCount(), 0);
        Due.is("public constructor", Modifier.isPublic(constructors[0].getModifiers()), true);
        TreeSet<String> constants = new TreeSet<>();
        for (Field field : PatchbayScript.class.getDeclaredFields()) {
            if (!Modifier.isPrivate(field.getModifiers())) {
                constants.add(field.getName());
                Due.is("whether " + field + " is final", Modifier.isFinal(field.getModifiers()), true);
            }
        }
        Due.is("the constants", constants.toString(), CONSTANTS.toString());
        for (Class<?> inside : PatchbayScript.class.getDeclaredClasses()) {
            Due.is("whether " + inside + " is static", Modifier.isStatic(inside.getModifiers()), true);
            Due.is("whether " + inside + " is public", Modifier.isPublic(inside.getModifiers()), false);
        }
        Due.is("how many classes", Arrays.asList(PatchbayScript.class.getDeclaredClasses()).size() <= 12, true);
    }

    private static long bytes() {
        return ((com.sun.management.ThreadMXBean) ManagementFactory.getThreadMXBean()).getCurrentThreadAllocatedBytes();
    }

    private static void memory() {
        dearCalls(new PatchbayScript());
        long before = bytes();
        PatchbayScript script = new PatchbayScript();
        long made = bytes();
        Due.is("whether a new object is small", made - before < MOST_BYTES_OF_NEW, true);
        dearCalls(script);
        Due.is("whether calls make next to nothing", bytes() - made < MOST_BYTES_OF_CALLS, true);
    }

    private static void dearCalls(PatchbayScript script) {
        String[] texts = {"Ada B. Byron", "bob cox 12", "eve-k. li", "7.11.2026 A1"};
        for (String text : texts) {
            Due.line(script, text);
        }
        for (int i = 0; i < texts.length; i++) {
            Due.show(script, 0, i, texts[texts.length - 1 - i]);
            Due.show(script, 1, i, texts[i]);
        }
        for (int i = 0; i < 110; i++) {
            script.pin(i % 2, 3, i % 4 - 1 == 0 ? -1 : i % 4 - 1, i % 4, i % 3, i % 4);
            script.learn(i % 2);
            script.question(i % 2);
        }
    }
}
