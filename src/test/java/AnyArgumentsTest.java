import java.lang.reflect.InvocationTargetException;
import java.lang.reflect.Method;
import java.lang.reflect.Modifier;
import java.util.ArrayList;
import java.util.Comparator;
import java.util.List;
import java.util.Random;

/** No call ever throws, whatever its arguments; the same calls always give the same answers. */
public final class AnyArgumentsTest {
    private static final int[] ODD = {
        0, 1, 2, 3, 4, 5, 6, 7, 8, 9, 10, 11, 16, 20, 21, 31, 32, 33, 40, 41, 59, 60, 61, 63, 64, 100, 111, 127, 128, 199, 200,
        201, 255, 256, 512, 999, 9999, 10000, 12345, 44444, 55555, 65535, 65536, 99999, 100000, 1000000, 0x6865616c,
        Integer.MAX_VALUE, Integer.MAX_VALUE - 1};
    private static int calls = 0;

    private static List<Method> face() {
        List<Method> all = new ArrayList<>();
        for (Method method : PreCommitHall.class.getDeclaredMethods()) {
            if (Modifier.isPublic(method.getModifiers())) {
                all.add(method);
            }
        }
        all.sort(Comparator.comparing(Method::getName));
        return all;
    }

    private static int argument(Random random) {
        switch (random.nextInt(8)) {
            case 0: return ODD[random.nextInt(ODD.length)];
            case 1: return -1 - ODD[random.nextInt(ODD.length)];
            case 2: return random.nextInt();
            case 3: return -1;
            default: return random.nextInt(5);
        }
    }

    private static int call(PreCommitHall hall, Method method, Object[] arguments)
        throws IllegalAccessException, InvocationTargetException {
        calls++;
        return (Integer) method.invoke(hall, arguments);
    }

    public static void main(String[] args) throws IllegalAccessException {
        List<Method> face = face();
        for (int seed = 0; seed < 60; seed++) {
            Random random = new Random(seed);
            PreCommitHall one = new PreCommitHall();
            PreCommitHall other = new PreCommitHall();
            PreCommitHall between = new PreCommitHall();
            List<String> told = new ArrayList<>();
            for (int i = 0; i < 512; i++) {
                Method method = face.get(random.nextInt(face.size()));
                Object[] arguments = new Object[method.getParameterCount()];
                for (int a = 0; a < arguments.length; a++) {
                    arguments[a] = argument(random);
                }
                told.add(method.getName() + java.util.Arrays.toString(arguments));
                try {
                    int answer = call(one, method, arguments);
                    // A hall that does something else in between changes nothing of that.
                    call(between, face.get(i % face.size()), new Object[face.get(i % face.size()).getParameterCount()],
                        random.nextInt(4));
                    if (call(other, method, arguments) != answer) {
                        fail("not the same answer", told);
                    }
                } catch (InvocationTargetException thrown) {
                    fail(String.valueOf(thrown.getCause()), told);
                }
            }
        }
        System.out.println(calls + " calls, none threw");
    }

    private static void call(PreCommitHall hall, Method method, Object[] arguments, int all)
        throws IllegalAccessException, InvocationTargetException {
        java.util.Arrays.fill(arguments, all);
        call(hall, method, arguments);
    }

    private static void fail(String what, List<String> told) {
        System.out.println(what + " behind: " + told);
        System.exit(1);
    }
}
