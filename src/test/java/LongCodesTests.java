import java.lang.reflect.Constructor;
import java.lang.reflect.Field;
import java.lang.reflect.Method;
import java.util.ArrayList;
import java.util.List;

/**
 * Promises 17 and 19: LENGTHS above 12 need weights that rise like 1, 1, 1, 2, 3, 5 .. to a sum of 610, which no block
 * as it stands reaches (601 symbols), and of PACKED hardly one (StreamEdges has one), so that this test looks at the
 * class's own Codes from inside.
 */
public final class LongCodesTests {
    private static final int MOST_SYMBOLS = 901;
    private final Due due = new Due();

    public static void main(String[] args) throws ReflectiveOperationException {
        LongCodesTests tests = new LongCodesTests();
        for (int count = 12; count <= 18; count++) {
            tests.rising(count, 1, 1);
            tests.rising(count, 1, 2);
            tests.rising(count, 2, 2);
        }
        tests.rising(200, 1, 1);
        tests.rising(258, 1, 2);
        tests.due.isTrue("weights are halved in some of these", tests.halved > 2);
        tests.due.end("LongCodesTests");
    }

    private int halved;

    private void rising(int count, int one, int two) throws ReflectiveOperationException {
        int end = count - 1;
        List<Integer> symbols = new ArrayList<>();
        int weight = one;
        int next = two;
        // The END stands once, so that the weights rise from symbol 1 on; symbol 0 does not stand at all.
        for (int symbol = 1; symbol < end; symbol++) {
            for (int i = 0; i < weight && symbols.size() < MOST_SYMBOLS - 1; i++) {
                symbols.add(symbol);
            }
            int sum = weight + next;
            weight = next;
            next = sum;
        }
        symbols.add(end);
        compare(symbols, end);
    }

    private void compare(List<Integer> symbols, int end) throws ReflectiveOperationException {
        Object inside = make("SortTransform$Symbols");
        int[] row = (int[]) field(inside, "row").get(inside);
        for (int i = 0; i < symbols.size(); i++) {
            row[i] = symbols.get(i);
        }
        field(inside, "count").setInt(inside, symbols.size());
        field(inside, "end").setInt(inside, end);
        Object codes = make("SortTransform$Codes");
        Method makeFrom = codes.getClass().getDeclaredMethod("makeFrom", inside.getClass());
        makeFrom.setAccessible(true);
        makeFrom.invoke(codes, inside);
        int[] lengths = (int[]) field(codes, "lengths").get(codes);
        int[] values = (int[]) field(codes, "values").get(codes);
        int[] wanted = PlainModel.lengthsOf(symbols);
        String[] wantedCodes = PlainModel.codesOf(wanted);
        for (int symbol = 0; symbol <= end; symbol++) {
            due.is("LENGTH of " + symbol + " of " + end, lengths[symbol], wanted[symbol]);
            due.is("CODE of " + symbol + " of " + end, values[symbol], Integer.parseInt(wantedCodes[symbol], 2));
        }
        halved += PlainModel.isHalved(symbols) ? 1 : 0;
    }

    private static Object make(String name) throws ReflectiveOperationException {
        Constructor<?> constructor = Class.forName(name).getDeclaredConstructor();
        constructor.setAccessible(true);
        return constructor.newInstance();
    }

    private static Field field(Object of, String name) throws ReflectiveOperationException {
        Field field = of.getClass().getDeclaredField(name);
        field.setAccessible(true);
        return field;
    }
}
