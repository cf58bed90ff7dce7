import java.lang.reflect.InvocationTargetException;
import java.lang.reflect.Method;
import java.util.Arrays;
import java.util.Comparator;

/** What the tests of boundary cases share. */
final class Edge {
    static final int BAD = -1, NO = -2, FULL = -3, NONE = -4;
    static final int FAR_BAD = -1000000000, FAR_NO = -1000000002, FAR_NONE = -1000000004;
    private static final Life[] LIVES = {Life.NEW, Life.EVENING, Life.FULL};

    interface Call {
        long on(BarMeasure x);
    }

    /** A call of one number that is tried. */
    interface CallOf {
        long on(BarMeasure x, int tried);
    }

    private Edge() {
    }

    /** Runs every method whose name begins with "promise", so that none is forgotten. */
    static void runAll(Class<?> tests) throws ReflectiveOperationException {
        Method[] methods = tests.getDeclaredMethods();
        Arrays.sort(methods, Comparator.comparing(Method::getName));
        int run = 0;
        for (Method method : methods) {
            if (method.getName().startsWith("promise")) {
                method.setAccessible(true);
                try {
                    method.invoke(null);
                } catch (InvocationTargetException thrown) {
                    Due.tell(method.getName() + " threw " + thrown.getCause());
                }
                run++;
            }
        }
        System.out.println(run + " tests of boundary cases");
        Due.end();
    }

    /** One below the least, one above the greatest, and the farthest of all. */
    static int[] beyond(int least, int greatest) {
        return new int[] {least - 1, greatest + 1, Integer.MIN_VALUE, Integer.MAX_VALUE};
    }

    /** In this life the call answers so, and all that is asked afterwards is answered as without it. */
    static void changesNothing(String name, Life life, long due, Call call) {
        String where = name + ", " + life.name;
        Due.is(where, call.on(life.lived()), due);
        Afterwards.mustBeAsBefore(where, life, call);
    }

    /** In every life: nothing told yet, an evening, all full. */
    static void refused(String name, long due, Call call) {
        for (Life life : LIVES) {
            changesNothing(name, life, due, call);
        }
    }

    static void refused(String name, Life life, long due, Call call) {
        changesNothing(name, life, due, call);
    }

    static void refusedBeyond(String name, int least, int greatest, long due, CallOf call) {
        for (int far : beyond(least, greatest)) {
            refused(name + ": " + far, due, x -> call.on(x, far));
        }
    }

    static void refusedNoSuchKind(String name, long due, CallOf call) {
        refusedBeyond(name + ", no such KIND", 0, 9, due, call);
        refused(name + ", the KIND behind the last", due, x -> call.on(x, x.count(0)));
    }

    static void refusedNoSuchRecipe(String name, long due, CallOf call) {
        refusedBeyond(name + ", no such RECIPE", 0, 11, due, call);
        refused(name + ", the RECIPE behind the last", due, x -> call.on(x, x.count(1)));
    }

    static void refusedNoSuchBar(String name, long due, CallOf call) {
        refusedBeyond(name + ", \"BARS 0, 1\"", 0, 1, due, call);
    }
}
