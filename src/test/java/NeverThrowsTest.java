import java.lang.reflect.InvocationTargetException;
import java.lang.reflect.Method;
import java.lang.reflect.Modifier;
import java.util.ArrayList;
import java.util.Arrays;
import java.util.Comparator;
import java.util.List;
import java.util.Random;

/** Calls of the whole face with any numbers, on objects with and without a well and a law: none throws. */
public final class NeverThrowsTest {
    private static final String WELL = "water 20 bottom 60 sinks 1 rain 7 by 3;person ann dies 10;person bob of ann;person cid of ann dies 30;person dot;"
        + "rope ra of ann yards 15 age 50 yards 10 age 5 slips 4;rope rb of bob yards 19 age 7;rope rc of dot yards 40 age 100 holy;flood 3 to 4 by 6;";
    private static final String LAW = "if holy give youngest;if yards>20 and heirs=2 give each;if reaches or not(age<10) give poorest;";
    private static final int[] EDGES = {Integer.MIN_VALUE, Integer.MIN_VALUE + 1, -100, -99, -1, 16, 19, 20, 21, 50, 51, 59, 60, 61, 99, 100, 101,
        199, 200, 201, 299, 300, 301, 880, 900, 901, 9999, 10000, Integer.MAX_VALUE - 1, Integer.MAX_VALUE, 0x20202020};
    private static final int OBJECTS = 2500;
    private static final int CALLS = 480;

    private final Random draw;

    private NeverThrowsTest(long seed) {
        draw = new Random(seed);
    }

    private static List<Method> face() {
        List<Method> face = new ArrayList<>();
        for (Method m : WellHeirs.class.getDeclaredMethods()) if (Modifier.isPublic(m.getModifiers())) face.add(m);
        // The machine may list them in any order; the draws shall be the same each time.
        face.sort(Comparator.comparing(Method::getName));
        return face;
    }

    private WellHeirs object() {
        WellHeirs x = new WellHeirs();
        if (draw.nextInt(8) != 0) Check.well(x, WELL);
        if (draw.nextInt(2) == 0) Check.law(x, LAW);
        return x;
    }

    private int number() {
        int kind = draw.nextInt(8);
        return kind == 0 ? draw.nextInt() : kind <= 2 ? EDGES[draw.nextInt(EDGES.length)] : draw.nextInt(14);
    }

    private Object[] arguments(Method m) {
        Object[] given = new Object[m.getParameterCount()];
        for (int i = 0; i < given.length; i++) {
            int v = number();
            if (m.getParameterTypes()[i] == int.class) given[i] = v;
            else given[i] = draw.nextInt(4) == 0 ? draw.nextLong() : (long) v;
        }
        return given;
    }

    /** Null, or the call that threw and what. */
    private String run(List<Method> face) throws IllegalAccessException {
        WellHeirs x = object();
        for (int i = 0; i < CALLS; i++) {
            Method m = face.get(draw.nextInt(face.size()));
            Object[] given = arguments(m);
            try {
                m.invoke(x, given);
            } catch (InvocationTargetException e) {
                return m.getName() + Arrays.toString(given) + " threw " + e.getCause();
            }
            if (x.bottom() <= 0 || x.status() < 0 || x.status() > 11) return m.getName() + " left a fraction or a STATUS that can't be";
        }
        return null;
    }

    public static void main(String[] args) throws IllegalAccessException {
        List<Method> face = face();
        for (int i = 0; i < OBJECTS; i++) {
            String wrong = new NeverThrowsTest(i).run(face);
            if (wrong != null) {
                System.out.println("NeverThrowsTest: object " + i + ": " + wrong);
                System.exit(1);
            }
        }
        System.out.println("NeverThrowsTest: " + OBJECTS * CALLS + " calls, none threw");
    }
}
