import java.lang.reflect.InvocationTargetException;
import java.lang.reflect.Method;
import java.util.ArrayList;
import java.util.Arrays;
import java.util.List;

/** Every call of the face with every choice of odd numbers, in objects of several states: none throws. */
public final class NeverThrowsTest {
    private static final int[] ODD = {Integer.MIN_VALUE, -1, 0, 1, 3, 8, 24, Integer.MAX_VALUE};
    private static final String[] TEXTS = {
        "", "01+1", "01+4,12?9,20=3;c4+@1", "01+1,12?2,23=3,34&4,45+5,56?6,67=7,70&8,03+9,14?10;p9+,s8?@1,w7=@2,u6&@3",
    };

    private static final Due DUE = new Due();
    private static int calls;

    public static void main(String[] args) {
        for (String text : TEXTS) {
            for (Method method : faceMethods()) {
                DUE.holds("'" + text + "': " + method.getName(), neverThrows(text, method));
            }
        }
        System.out.println(calls + " calls");
        DUE.end();
    }

    private static List<Method> faceMethods() {
        List<Method> found = new ArrayList<>();
        for (Method method : RiddlePrison.class.getMethods()) {
            if (method.getDeclaringClass() == RiddlePrison.class) {
                found.add(method);
            }
        }
        return found;
    }

    private static boolean neverThrows(String text, Method method) {
        RiddlePrison x = text.isEmpty() ? new RiddlePrison() : Due.prison(text);
        x.sheet(1, 3, 24);
        x.sheet(3, 0, 24);
        Class<?>[] types = method.getParameterTypes();
        int[] chosen = new int[types.length];
        while (true) {
            if (!answers(x, method, types, chosen)) {
                return false;
            }
            int k = 0;
            while (k < chosen.length && chosen[k] == ODD.length - 1) {
                chosen[k] = 0;
                k++;
            }
            if (k == chosen.length) {
                return true;
            }
            chosen[k]++;
        }
    }

    private static boolean answers(RiddlePrison x, Method method, Class<?>[] types, int[] chosen) {
        Object[] told = new Object[chosen.length];
        for (int k = 0; k < chosen.length; k++) {
            if (types[k] == long.class) {
                told[k] = (long) ODD[chosen[k]] << 31;
            } else {
                told[k] = ODD[chosen[k]];
            }
        }
        try {
            calls++;
            method.invoke(x, told);
            return true;
        } catch (IllegalAccessException | InvocationTargetException e) {
            System.out.println(method.getName() + Arrays.toString(told) + ": " + e.getCause());
            return false;
        }
    }
}
