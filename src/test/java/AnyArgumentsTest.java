import java.lang.reflect.InvocationTargetException;
import java.lang.reflect.Method;
import java.lang.reflect.Modifier;

/** No call ever throws: each with all rows of odd arguments, on a new object, on a busy hall and on a full one. */
public final class AnyArgumentsTest {
    private static final int[] ODD = {Integer.MIN_VALUE, NeverSaid.NONE, -1, 0, 1, 3, 12, 24, Integer.MAX_VALUE};
    /** A hall is made anew now and then, as an object is used for at most 512 calls. */
    private static final int CALLS = 300;
    private static final Refused.Making[] MAKINGS = {NeverSaid::new, Busy::hall, Busy::full};
    private static final Due due = new Due();

    public static void main(String[] args) throws IllegalAccessException {
        int methods = 0;
        for (Method m : NeverSaid.class.getDeclaredMethods()) {
            if (Modifier.isPublic(m.getModifiers())) {
                methods++;
                for (Refused.Making making : MAKINGS) {
                    allRows(m, making);
                }
            }
        }
        due.is("methods", methods, 42);
        due.end();
    }

    private static void allRows(Method m, Refused.Making making) throws IllegalAccessException {
        int rows = 1;
        for (int i = 0; i < m.getParameterCount(); i++) {
            rows *= ODD.length;
        }
        int thrown = 0;
        NeverSaid x = making.make();
        for (int row = 0; row < rows; row++) {
            x = row % CALLS == CALLS - 1 ? making.make() : x;
            try {
                m.invoke(x, arguments(m.getParameterCount(), row));
            } catch (InvocationTargetException e) {
                thrown++;
            }
        }
        due.is(m.getName() + " has thrown", thrown, 0);
    }

    private static Object[] arguments(int many, int row) {
        Object[] all = new Object[many];
        int rest = row;
        for (int i = 0; i < many; i++) {
            all[i] = ODD[rest % ODD.length];
            rest /= ODD.length;
        }
        return all;
    }
}
