import java.lang.reflect.Constructor;
import java.lang.reflect.Field;
import java.lang.reflect.Method;
import java.lang.reflect.Modifier;
import java.util.Arrays;
import java.util.Set;
import java.util.TreeSet;

/** Promise 1, the constants, and that the class shows nothing but the document's face. */
public final class FaceTest {
    private static final Set<String> FACE = new TreeSet<>(Arrays.asList(
        "UNKNOWN", "BAD_VALUE", "FULL", "NOT_POSSIBLE", "NONE",
        "boat(int,int,int,int)", "load(int,int)", "turnLock(int)", "setDepth(int,int)", "set(int,int)",
        "pass(int)", "type(char)", "clearText()", "perform()", "stopped(int)", "undo()", "keep()", "restore()",
        "boatOf(int,int)", "lock(int,int)", "pound(int,int)", "reason(int)", "arrivesIn(int)", "water(int)",
        "bestTurn(int)", "ifTicks(int,int)", "count(int)"));

    public static void main(String[] args) {
        constants();
        newObject();
        face();
        privateNames();
        Check.end();
    }

    private static void constants() {
        Check.due("UNKNOWN", CanalSteps.UNKNOWN, -1);
        Check.due("BAD_VALUE", CanalSteps.BAD_VALUE, -2);
        Check.due("FULL", CanalSteps.FULL, -3);
        Check.due("NOT_POSSIBLE", CanalSteps.NOT_POSSIBLE, -4);
        Check.due("NONE", CanalSteps.NONE, -5);
    }

    private static void newObject() {
        CanalSteps x = new CanalSteps();
        int[] counts = {0, 0, 0, 0, 0, 0, 0, 0, 0, 6, 2, 4, 0, 0};
        for (int what = 0; what < counts.length; what++) {
            Check.due("1: count(" + what + ") of a new object", x.count(what), counts[what]);
        }
        int[] locks = {0, 0, 0, -5, -5, 0, 0, 0};
        for (int lock = 0; lock < 5; lock++) {
            for (int what = 0; what < locks.length; what++) {
                Check.due("1: lock(" + lock + ", " + what + ") of a new object", x.lock(lock, what), locks[what]);
            }
        }
        int[] pounds = {40, 0, 0, 0};
        for (int pound = 0; pound < 6; pound++) {
            for (int what = 0; what < pounds.length; what++) {
                Check.due("1: pound(" + pound + ", " + what + ") of a new object", x.pound(pound, what), pounds[what]);
            }
        }
        Check.due("1: boat 0 of a new object", x.boatOf(0, 0), -1);
        Check.due("1: undo() of a new object", x.undo(), -5);
        Check.due("1: restore() of a new object", x.restore(), -5);
        Check.due("1: stopped(0) of a new object", x.stopped(0), -5);
        Check.due("1: stopped(1) of a new object", x.stopped(1), -5);
        Check.due("1: perform() of a new object", x.perform(), -100);
        Check.due("1: two new objects share nothing", new CanalSteps().boat(1, 0, 1, 5) + x.boat(1, 0, 1, 5), 0);
    }

    private static void face() {
        Set<String> shown = new TreeSet<>();
        for (Method method : CanalSteps.class.getDeclaredMethods()) {
            if (!Modifier.isPrivate(method.getModifiers()) && !method.isSynthetic()) {
                shown.add(described(method));
                Check.due(method + " is public", Modifier.isPublic(method.getModifiers()) ? 1 : 0, 1);
                Check.due(method + " is static", Modifier.isStatic(method.getModifiers()) ? 1 : 0, 0);
                Check.due(method + " answers an int", method.getReturnType() == int.class ? 1 : 0, 1);
            }
        }
        for (Field field : CanalSteps.class.getDeclaredFields()) {
            if (!Modifier.isPrivate(field.getModifiers())) {
                shown.add(field.getName());
                int due = Modifier.PUBLIC | Modifier.STATIC | Modifier.FINAL;
                Check.due("modifiers of " + field, field.getModifiers(), due);
            }
        }
        Check.due("the face " + shown, shown.equals(FACE) ? 1 : 0, 1);
        Check.due("modifiers of the class", CanalSteps.class.getModifiers(), Modifier.PUBLIC | Modifier.FINAL);
        Constructor<?>[] constructors = CanalSteps.class.getDeclaredConstructors();
        Check.due("constructors", constructors.length, 1);
        Check.due("the constructor's arguments", constructors[0].getParameterCount(), 0);
        Check.due("the constructor is public", constructors[0].getModifiers(), Modifier.PUBLIC);
    }

    private static void privateNames() {
        Set<String> names = new TreeSet<>();
        for (String member : FACE) {
            names.add(member.replaceAll("\\(.*", ""));
        }
        for (Class<?> inside : CanalSteps.class.getDeclaredClasses()) {
            Check.due(inside + " is static", Modifier.isStatic(inside.getModifiers()) ? 1 : 0, 1);
            Check.due(inside + " is public or protected",
                inside.getModifiers() & (Modifier.PUBLIC | Modifier.PROTECTED), 0);
            for (Method method : inside.getDeclaredMethods()) {
                Check.due(method + " bears a public name", names.contains(method.getName()) ? 1 : 0, 0);
            }
        }
        for (Method method : CanalSteps.class.getDeclaredMethods()) {
            boolean hidden = Modifier.isPrivate(method.getModifiers());
            Check.due(method + " bears a public name", hidden && names.contains(method.getName()) ? 1 : 0, 0);
        }
    }

    private static String described(Method method) {
        StringBuilder text = new StringBuilder(method.getName()).append('(');
        String comma = "";
        for (Class<?> type : method.getParameterTypes()) {
            text.append(comma).append(type.getName());
            comma = ",";
        }
        return text.append(')').toString();
    }
}
