import java.lang.reflect.Constructor;
import java.lang.reflect.Field;
import java.lang.reflect.InvocationTargetException;
import java.lang.reflect.Method;

/** That the parts inside look themselves at an empty history, an empty or full queue, a boat that has arrived. */
public final class GuardsTest {
    private static final int DONE = 1;
    private static final int THREW = 0;

    public static void main(String[] args) throws ReflectiveOperationException {
        emptyHistory();
        emptyQueue();
        fullQueue();
        boatInItsGoal();
        Check.end();
    }

    private static void emptyHistory() throws ReflectiveOperationException {
        Object history = made("History");
        Check.due("the latest of no states is null", call(history, "takeLatest") == null ? 1 : 0, 1);
        Check.due("still no state", number(history, "size"), 0);
    }

    private static void emptyQueue() throws ReflectiveOperationException {
        Object queue = made("Queue");
        Check.due("the first of none", (int) call(queue, "first"), CanalSteps.NONE);
        Check.due("the place in none", (int) call(queue, "placeOf", 0), CanalSteps.NONE);
        call(queue, "dropFirst");
        Check.due("still none", number(queue, "size"), 0);
    }

    private static void fullQueue() throws ReflectiveOperationException {
        Object queue = made("Queue");
        for (int i = 0; i < 20; i++) {
            call(queue, "join", i);
        }
        Check.due("no more than 16", number(queue, "size"), 16);
    }

    private static void boatInItsGoal() throws ReflectiveOperationException {
        Object canal = made("Canal");
        Object boat = ((Object[]) field(canal, "boats").get(canal))[0];
        for (int pound = 0; pound <= 5; pound++) {
            field(boat, "pound").setInt(boat, pound);
            field(boat, "goal").setInt(boat, pound);
            Check.due("a boat that has arrived in " + pound + " has no queue", call(canal, "queueOf", boat) == null ? 1 : 0, 1);
            Check.due("nor a place in it", (int) call(canal, "tellBoat", 0, 7), CanalSteps.NONE);
            Check.due("nor a reason but that", (int) call(canal, "reasonNow", 0), 1);
            Check.due("nor a lock", (int) call(boat, "lockNumber"), CanalSteps.NONE);
            Check.due("nor a next pound", (int) call(boat, "nextPound"), pound);
        }
    }

    private static Object made(String name) throws ReflectiveOperationException {
        Constructor<?> constructor = Class.forName("CanalSteps$" + name).getDeclaredConstructor();
        constructor.setAccessible(true);
        return constructor.newInstance();
    }

    /** What a method of a part answers; a call that throws is told as a wrong answer. */
    private static Object call(Object part, String name, Object... arguments) throws ReflectiveOperationException {
        for (Method method : part.getClass().getDeclaredMethods()) {
            if (method.getName().equals(name)) {
                method.setAccessible(true);
                try {
                    return method.invoke(part, arguments);
                } catch (InvocationTargetException thrown) {
                    Check.due(name + " throws " + thrown.getCause(), THREW, DONE);
                    return Integer.MIN_VALUE;
                }
            }
        }
        Check.due(name + " is there", 0, 1);
        return Integer.MIN_VALUE;
    }

    private static Field field(Object part, String name) throws ReflectiveOperationException {
        Field field = part.getClass().getDeclaredField(name);
        field.setAccessible(true);
        return field;
    }

    private static int number(Object part, String name) throws ReflectiveOperationException {
        return field(part, name).getInt(part);
    }
}
