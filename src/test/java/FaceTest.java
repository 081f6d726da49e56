import java.lang.reflect.Constructor;
import java.lang.reflect.Field;
import java.lang.reflect.Method;
import java.lang.reflect.Modifier;
import java.util.Arrays;
import java.util.Set;
import java.util.TreeSet;

/** Promise 1, the constants, and that the class shows the document's face and nothing else. */
public final class FaceTest {
    private static final Set<String> FACE = new TreeSet<>(Arrays.asList(
        "UNKNOWN", "BAD_VALUE", "FULL", "NOT_POSSIBLE", "NONE",
        "boat(int,int,int,int)", "load(int,int)", "turnLock(int)", "setDepth(int,int)", "set(int,int)",
        "pass(int)", "type(char)", "clearText()", "perform()", "stopped(int)", "undo()", "keep()", "restore()",
        "boatOf(int,int)", "lock(int,int)", "pound(int,int)", "reason(int)", "arrivesIn(int)", "water(int)",
        "bestTurn(int)", "ifTicks(int,int)", "count(int)"));

    public static void main(String[] args) {
        constants();
        newObject();
        face();
        classesInside();
        privateNames();
        Check.end();
    }

    private static void constants() {
        Check.says(0, "Errors are reported by the constants below.");
        Check.says(0, "`UNKNOWN = -1`: There is no such pound, lock, boat or setting.");
        CanalSteps x = new CanalSteps();
        Check.due("UNKNOWN", CanalSteps.UNKNOWN, -1);
        Check.due("a pound", x.pound(6, 0) + x.setDepth(6, 1) + x.boat(1, 6, 1, 5), -3);
        Check.due("a lock", x.lock(5, 0) + x.turnLock(5), -2);
        Check.due("a boat", x.boatOf(0, 0) + x.load(0, 5) + x.reason(0) + x.arrivesIn(0), -4);
        Check.due("a setting", x.set(3, 1), -1);
        Check.says(0, "`BAD_VALUE = -2`: Another argument is out of range.");
        Check.due("BAD_VALUE", CanalSteps.BAD_VALUE, -2);
        Check.due("arguments", x.setDepth(0, 91) + x.set(0, 21) + x.pass(0) + x.lock(0, 8) + x.pound(0, 4), -10);
        Check.due("arguments", x.water(2) + x.bestTurn(2) + x.ifTicks(501, 0) + x.count(14) + x.stopped(2), -10);
        Check.says(0, "`FULL = -3`: There is no more room.");
        Check.due("FULL", CanalSteps.FULL, -3);
        for (int i = 0; i < 60; i++) {
            x.type(' ');
        }
        Check.due("no room in the text", x.type(' '), -3);
        Check.says(0, "`NOT_POSSIBLE = -4`: This is not possible.");
        Check.due("NOT_POSSIBLE", CanalSteps.NOT_POSSIBLE, -4);
        x.setDepth(1, 0);
        Check.due("no water", x.turnLock(0), -4);
        Check.says(0, "`NONE = -5`: There is no such thing; not an error.");
        Check.due("NONE", CanalSteps.NONE, -5);
        Check.due("no snapshot", x.restore(), -5);
    }

    private static void newObject() {
        Check.says(1, "Creates a canal without boats, at the tick 0.");
        CanalSteps x = new CanalSteps();
        int[] counts = {0, 0, 0, 0, 0, 0, 0, 0, 0, 6, 2, 4, 0, 0};
        for (int what = 0; what < counts.length; what++) {
            Check.due("count(" + what + ")", x.count(what), counts[what]);
        }
        int[] locks = {0, 0, 0, -5, -5, 0, 0, 0};
        for (int lock = 0; lock < 5; lock++) {
            for (int what = 0; what < locks.length; what++) {
                Check.due("lock(" + lock + ", " + what + ")", x.lock(lock, what), locks[what]);
            }
        }
        int[] pounds = {40, 0, 0, 0};
        for (int pound = 0; pound < 6; pound++) {
            for (int what = 0; what < pounds.length; what++) {
                Check.due("pound(" + pound + ", " + what + ")", x.pound(pound, what), pounds[what]);
            }
        }
        Check.due("boat 0", x.boatOf(0, 0), -1);
        Check.due("undo()", x.undo(), -5);
        Check.due("restore()", x.restore(), -5);
        Check.due("stopped(0)", x.stopped(0), -5);
        Check.due("stopped(1)", x.stopped(1), -5);
        Check.due("perform()", x.perform(), -100);
        Check.due("bestTurn(0)", x.bestTurn(0), -5);
        Check.due("water", x.water(0) * 1000 + x.water(1), 240240);
        Check.due("two objects share nothing", new CanalSteps().boat(1, 0, 1, 5) + x.boat(1, 0, 1, 5), 0);
    }

    private static void face() {
        Set<String> shown = new TreeSet<>();
        for (Method method : CanalSteps.class.getDeclaredMethods()) {
            if (!Modifier.isPrivate(method.getModifiers()) && !method.isSynthetic()) {
                shown.add(described(method));
                Check.due(method + " is public", Modifier.isPublic(method.getModifiers()) ? 1 : 0, 1);
                Check.due(method + " is static", Modifier.isStatic(method.getModifiers()) ? 1 : 0, 0);
                Check.due(method + " answers an int", method.getReturnType() == int.class ? 1 : 0, 1);
            }
        }
        for (Field field : CanalSteps.class.getDeclaredFields()) {
            if (!Modifier.isPrivate(field.getModifiers())) {
                shown.add(field.getName());
                int due = Modifier.PUBLIC | Modifier.STATIC | Modifier.FINAL;
                Check.due("modifiers of " + field, field.getModifiers(), due);
            }
        }
        Check.due("the face " + shown, shown.equals(FACE) ? 1 : 0, 1);
        Check.due("modifiers of the class", CanalSteps.class.getModifiers(), Modifier.PUBLIC | Modifier.FINAL);
        Constructor<?>[] constructors = CanalSteps.class.getDeclaredConstructors();
        Check.due("constructors", constructors.length, 1);
        Check.due("the constructor's arguments", constructors[0].getParameterCount(), 0);
        Check.due("the constructor is public", constructors[0].getModifiers(), Modifier.PUBLIC);
    }

    private static void classesInside() {
        for (Class<?> inside : CanalSteps.class.getDeclaredClasses()) {
            Check.due(inside + " is static", Modifier.isStatic(inside.getModifiers()) ? 1 : 0, 1);
            Check.due(inside + " is public or protected",
                inside.getModifiers() & (Modifier.PUBLIC | Modifier.PROTECTED), 0);
        }
    }

    private static void privateNames() {
        Set<String> names = new TreeSet<>();
        for (String member : FACE) {
            names.add(member.replaceAll("\\(.*", ""));
        }
        for (Method method : CanalSteps.class.getDeclaredMethods()) {
            boolean hidden = Modifier.isPrivate(method.getModifiers());
            Check.due(method + " bears a public name", hidden && names.contains(method.getName()) ? 1 : 0, 0);
        }
    }

    private static String described(Method method) {
        StringBuilder text = new StringBuilder(method.getName()).append('(');
        String comma = "";
        for (Class<?> type : method.getParameterTypes()) {
            text.append(comma).append(type.getName());
            comma = ",";
        }
        return text.append(')').toString();
    }
}
