import java.lang.reflect.Constructor;
import java.lang.reflect.Field;
import java.lang.reflect.Method;
import java.lang.reflect.Modifier;
import java.util.Arrays;
import java.util.Set;
import java.util.TreeSet;

/** The public face, and the room that calls take. */
public final class FaceTest {
    private static final String[] METHODS = {
        "int pass(int)", "int adjust(int)", "int turn(int, int)", "int press(int, int)", "int fill(int)",
        "int exchange(int, int)", "int tighten(int)", "int replace(int)", "int set(int, int)", "int type(char)",
        "int clearText()", "int fault()", "int doAll()", "int undo()", "int keep()", "int restore()",
        "int date(int, int)", "int day(int)", "int band(int, int)", "int wear(int, int)", "int print(int, int)",
        "int rightOf(int)", "int count(int)", "double even()", "int stepsTo(int)", "int leastPress()",
        "int lasts(int, int)", "int bestExchange(int, int)"};
    private static final long MOST_BYTES = 600_000;

    public static void main(String[] args) {
        members();
        classesInside(StampDater.class);
        room();
        Check.end("FaceTest");
    }

    private static boolean isHidden(int modifiers) {
        return Modifier.isPrivate(modifiers);
    }

    private static void members() {
        int type = StampDater.class.getModifiers();
        Check.due("public and final", Modifier.isPublic(type) && Modifier.isFinal(type) ? 1 : 0, 1);
        Set<String> methods = new TreeSet<>();
        Set<String> names = new TreeSet<>();
        for (Method method : StampDater.class.getDeclaredMethods()) {
            if (!isHidden(method.getModifiers())) {
                String parameters = Arrays.toString(method.getParameterTypes());
                methods.add(method.getReturnType() + " " + method.getName() + "("
                        + parameters.substring(1, parameters.length() - 1) + ")");
                names.add(method.getName());
            }
        }
        Check.same("methods", methods.toString(), new TreeSet<>(Arrays.asList(METHODS)).toString());
        Set<String> constants = new TreeSet<>();
        for (Field field : StampDater.class.getDeclaredFields()) {
            if (!isHidden(field.getModifiers())) {
                constants.add(Modifier.toString(field.getModifiers()) + " " + field.getName());
            }
        }
        String kind = "public static final ";
        Check.same("constants", constants.toString(), new TreeSet<>(Arrays.asList(
                kind + "UNKNOWN", kind + "BAD_VALUE", kind + "FULL", kind + "NONE")).toString());
        Constructor<?>[] constructors = StampDater.class.getDeclaredConstructors();
        Check.due("constructors", constructors.length, 1);
        Check.due("its parameters", constructors[0].getParameterCount(), 0);
        for (Class<?> inside : StampDater.class.getDeclaredClasses()) {
            for (Method method : inside.getDeclaredMethods()) {
                Check.due(inside.getName() + "." + method.getName() + " bears a public name",
                        names.contains(method.getName()) ? 1 : 0, 0);
            }
        }
    }

    private static void classesInside(Class<?> outer) {
        Class<?>[] classes = outer.getDeclaredClasses();
        Check.due("at most twelve classes", classes.length <= 11 ? 1 : 0, 1);
        for (Class<?> inside : classes) {
            int modifiers = inside.getModifiers();
            boolean open = Modifier.isPublic(modifiers) || Modifier.isProtected(modifiers);
            Check.due(inside.getName() + " is hidden and static", !open && Modifier.isStatic(modifiers) ? 1 : 0, 1);
            for (Field field : inside.getDeclaredFields()) {
                boolean isVariable = Modifier.isStatic(field.getModifiers()) && !Modifier.isFinal(field.getModifiers());
                Check.due(inside.getName() + "." + field.getName() + " is a static variable", isVariable ? 1 : 0, 0);
            }
        }
    }

    /** What 512 of the dearest calls make must stay far below the room of a run. */
    private static void room() {
        com.sun.management.ThreadMXBean threads =
                (com.sun.management.ThreadMXBean) java.lang.management.ManagementFactory.getThreadMXBean();
        dearestCalls();
        long before = threads.getCurrentThreadAllocatedBytes();
        dearestCalls();
        long bytes = threads.getCurrentThreadAllocatedBytes() - before;
        Check.due("bytes " + bytes + " are too many", bytes <= MOST_BYTES ? 0 : 1, 0);
    }

    private static void dearestCalls() {
        StampDater stamp = new StampDater();
        stamp.set(0, 10);
        stamp.set(1, 150);
        for (char character : "a;p1;p1;p1;p1;p1;p1;p1;i200;p1;+1;a;p1;i200;p1;p1;+1;a;p1".toCharArray()) {
            stamp.type(character);
        }
        for (int round = 0; round < 95; round++) {
            for (int place = 0; place < 6 && round % 10 == 0; place++) {
                stamp.replace(place);
            }
            stamp.doAll();
            stamp.lasts(9, 1);
            stamp.bestExchange(9, 20);
            stamp.print(0, 7);
        }
    }
}
