import java.lang.reflect.InvocationTargetException;
import java.lang.reflect.Method;
import java.lang.reflect.Modifier;
import java.util.ArrayList;
import java.util.Arrays;
import java.util.Comparator;
import java.util.List;
import java.util.Random;

/** Any calls in any order with any numbers, 512 on an object, the same each time: none throws. */
public final class WildTest {
    private static final int[] EDGES = {-1, -2, 7, 8, 9, 12, 13, 14, 24, 25, 30, 60, 96, 99, 100, 101, 32768, 99999,
        Integer.MIN_VALUE, Integer.MAX_VALUE, MeanSafe.NONE, 0x73657420, 0x286c2b68, 0x21282128, 0x292f2020};

    public static void main(String[] args) throws IllegalAccessException {
        List<Method> calls = new ArrayList<>();
        for (Method m : MeanSafe.class.getDeclaredMethods()) if (Modifier.isPublic(m.getModifiers())) calls.add(m);
        // The machine tells methods in any order; the runs are to be the same each time.
        calls.sort(Comparator.comparing(Method::getName));
        Random lot = new Random(512);
        int wrong = 0;
        for (int run = 0; run < 1000; run++) {
            String thrown = play(new MeanSafe(), calls, lot);
            if (thrown == null) continue;
            wrong++;
            System.out.println("run " + run + ": " + thrown);
        }
        System.out.println(wrong == 0 ? "none throws" : wrong + " runs ended with what was thrown");
        if (wrong != 0) System.exit(1);
    }

    private static String play(MeanSafe x, List<Method> calls, Random lot) throws IllegalAccessException {
        for (int i = 0; i < 512; i++) {
            Method m = calls.get(lot.nextInt(calls.size()));
            Object[] values = new Object[m.getParameterCount()];
            for (int k = 0; k < values.length; k++) values[k] = number(lot);
            try {
                m.invoke(x, values);
            } catch (InvocationTargetException e) {
                return m.getName() + Arrays.toString(values) + " threw " + e.getCause();
            }
        }
        return null;
    }

    private static int number(Random lot) {
        int r = lot.nextInt(10);
        return r < 6 ? lot.nextInt(6) : r < 9 ? EDGES[lot.nextInt(EDGES.length)] : lot.nextInt();
    }
}
