import java.lang.reflect.InvocationTargetException;
import java.lang.reflect.Method;
import java.util.Arrays;
import java.util.Comparator;
import java.util.regex.Matcher;
import java.util.regex.Pattern;

/** Runs every test of an edge, each on an object of its own, and looks that each promise has some. */
public final class EdgeTests {
    private static final int PROMISES = 27;
    private static final Pattern NAME = Pattern.compile("p(\\d\\d)[A-Z]\\w*");
    private final Due due = new Due();
    private final int[] perPromise = new int[PROMISES + 1];

    public static void main(String[] args) throws ReflectiveOperationException {
        EdgeTests tests = new EdgeTests();
        tests.runAll(BlockEdges.class);
        tests.runAll(TurnEdges.class);
        tests.runAll(SymbolEdges.class);
        tests.runAll(StreamEdges.class);
        tests.runAll(ReadingEdges.class);
        for (int promise = 1; promise <= PROMISES; promise++) {
            tests.due.isTrue("promise " + promise + " has a test of an edge", tests.perPromise[promise] > 0);
        }
        tests.due.end("EdgeTests, " + Arrays.stream(tests.perPromise).sum() + " edges");
    }

    private void runAll(Class<? extends Edges> group) throws ReflectiveOperationException {
        Method[] methods = group.getDeclaredMethods();
        Arrays.sort(methods, Comparator.comparing(Method::getName));
        for (Method method : methods) {
            Matcher name = NAME.matcher(method.getName());
            if (name.matches()) {
                perPromise[Integer.parseInt(name.group(1))]++;
                runOne(group.getDeclaredConstructor().newInstance(), method);
            }
        }
    }

    private void runOne(Edges edges, Method method) throws ReflectiveOperationException {
        int wrongBefore = due.wrong();
        int askedBefore = due.asked();
        edges.tell(due);
        try {
            method.invoke(edges);
        } catch (InvocationTargetException thrown) {
            due.isTrue(method.getName() + " ended with " + thrown.getCause(), false);
        }
        due.isTrue(method.getName() + " asks for an answer", due.asked() > askedBefore);
        if (due.wrong() > wrongBefore) {
            System.out.println("FAILED: " + method.getDeclaringClass().getSimpleName() + "." + method.getName());
        }
    }
}
