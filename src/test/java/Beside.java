import java.lang.reflect.InvocationTargetException;
import java.lang.reflect.Method;
import java.util.ArrayList;
import java.util.Arrays;
import java.util.HashMap;
import java.util.List;
import java.util.Map;

/** A house and, beside it, the Oracle: each call is made on both, and both must answer the same. */
final class Beside {
    private static final Map<String, Method> CALLS = methodsOf(Askhouse.class);
    private static final Map<String, Method> ORACLE_CALLS = methodsOf(Oracle.class);

    final Oracle oracle = new Oracle();
    /** The calls made, with what the oracle answered. */
    final List<String> told = new ArrayList<>();
    boolean isSame = true;
    private final Askhouse house = new Askhouse();
    private Object lastAnswer;

    private static Map<String, Method> methodsOf(Class<?> type) {
        Map<String, Method> methods = new HashMap<>();
        for (Method method : type.getDeclaredMethods()) {
            if (!methods.containsKey(method.getName()) || method.getModifiers() == 0) {
                method.setAccessible(true);
                methods.put(method.getName(), method);
            }
        }
        return methods;
    }

    /** Makes a call on both; tells what the house answers, an exception as "throws." and its name. */
    Object ask(String name, Object... args) {
        Object due = outcome(ORACLE_CALLS.get(name), oracle, args);
        lastAnswer = outcome(CALLS.get(name), house, args);
        told.add(name + Arrays.toString(args).replace('[', '(').replace(']', ')') + " -> " + due);
        isSame = isSame && due.equals(lastAnswer);
        return lastAnswer;
    }

    /** Prints the calls up to the one that was answered wrongly. */
    void tell(String run) {
        for (String line : told.subList(Math.max(0, told.size() - 400), told.size())) {
            System.out.println(line);
        }
        System.out.println(run + ": the last call is answered " + lastAnswer + " by the house");
    }

    private static Object outcome(Method method, Object on, Object[] args) {
        try {
            return method.invoke(on, args);
        } catch (InvocationTargetException e) {
            if (!(e.getCause() instanceof RuntimeException)) {
                throw new AssertionError(e.getCause());
            }
            return "throws." + e.getCause().getClass().getSimpleName();
        } catch (IllegalAccessException e) {
            throw new AssertionError(e);
        }
    }
}
