import java.lang.reflect.Method;
import java.lang.reflect.Modifier;
import java.util.Arrays;
import java.util.Comparator;

/** Runs the tests of edges, each by its name, and sees to it that every promise has one. */
final class EdgesTest {
    private static final Class<?>[] GROUPS = {
        TapeEdges.class, PlaceEdges.class, LineEdges.class, CursorEdges.class, HistoryEdges.class,
    };
    private static final int PROMISES = 41;

    public static void main(String[] args) throws ReflectiveOperationException {
        int[] tests = new int[PROMISES + 1];
        int all = 0;
        for (Class<?> group : GROUPS) {
            Method[] methods = group.getDeclaredMethods();
            Arrays.sort(methods, Comparator.comparing(Method::getName));
            for (Method method : methods) {
                if (!Modifier.isPrivate(method.getModifiers()) && !method.isSynthetic()) {
                    run(group, method);
                    tests[promise(method.getName())]++;
                    all++;
                }
            }
        }
        Edges.CHECK.begin("EdgesTest");
        for (int promise = 1; promise <= PROMISES; promise++) {
            Edges.CHECK.due("promise " + promise + " has a test", tests[promise] > 0, true);
        }
        System.out.println("EdgesTest: " + all + " tests");
        Edges.CHECK.finish();
    }

    private static void run(Class<?> group, Method method) throws ReflectiveOperationException {
        Edges.CHECK.begin(group.getSimpleName() + "." + method.getName());
        int before = Edges.CHECK.looked();
        method.invoke(null);
        Edges.CHECK.due("it looks at something", Edges.CHECK.looked() > before, true);
    }

    /** The number in its name; 0 for what the terms say. */
    private static int promise(String name) {
        if (!name.startsWith("promise")) {
            return 0;
        }
        return Integer.parseInt(name.substring("promise".length(), name.indexOf('_')));
    }
}
