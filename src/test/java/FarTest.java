import java.lang.reflect.InvocationTargetException;
import java.lang.reflect.Method;
import java.util.HashMap;
import java.util.Map;

/** Numbers as arguments that are far away count as too small and too large, in each method and at each place. */
public final class FarTest {
    private static final int[] FAR = {
        Integer.MIN_VALUE, Integer.MIN_VALUE + 1, -65536, 65536, Integer.MAX_VALUE - 1, Integer.MAX_VALUE};

    /**
     * Each method that takes numbers, with arguments that it takes, and what is due when the one at that place is far away:
     * I an IndexOutOfBoundsException, A an IllegalArgumentException, S an IllegalStateException, - nothing (it is no
     * number), or else the answer.
     */
    private static final String[][] CALLS = {
        {"question", "0 0 2 0", "I A A A"}, {"is", "0 0 0", "I A A"}, {"inGroup", "0", "A"}, {"join", "0 0 1", "I I -"},
        {"not", "0", "I"}, {"show", "0 0", "I I"}, {"jump", "0 0 0", "I I I"}, {"dropJump", "0 0", "I I"}, {"check", "0 0", "I I"},
        {"quota", "0 1", "I A"}, {"place", "0 1", "I I"}, {"turn", "0 1", "I -"}, {"loop", "1 0 1", "I I A"}, {"groups", "1", "A"},
        {"invite", "7 0 0", "I A A"}, {"answer", "0 0 -1 3", "I I S -9"}, {"type", "0 1 3 0", "I I A A"}, {"wipe", "0 0 -1", "I I S"},
        {"go", "0", "I"}, {"back", "0", "I"}, {"send", "0", "I"}, {"pass", "1", "A"}, {"remind", "0", "A"}, {"ofPerson", "0 0", "I A"},
        {"stands", "0 0 -1", "I I -1"}, {"seen", "0", "I"}, {"choices", "0 0", "I I"}, {"record", "0", "I"}, {"lost", "0", "A"},
        {"reached", "0", "I"}, {"rows", "0", "A"}, {"path", "0", "I"}, {"cell", "0 3 2 1 1", "I 0 I 0 -"},
        {"cube", "0 3 2 1 0 3", "I 0 I 0 I 0"}, {"rim", "0 0 1", "I A A"}, {"weigh", "1", "A"}, {"weight", "3", "I"},
        {"apart", "0 2", "I I"}, {"least", "3", "A"}, {"outside", "0 2", "I I"}, {"line", "0", "I"}, {"spoiled", "0 0 0", "I I A"},
        {"count", "0", "A"}};

    public static void main(String[] args) {
        Map<String, Method> methods = new HashMap<>();
        int withNumbers = 0;
        for (Method method : Askhouse.class.getMethods()) {
            if (method.getDeclaringClass() == Askhouse.class) {
                methods.put(method.getName(), method);
                withNumbers += method.getParameterCount() > 0 ? 1 : 0;
            }
        }
        Check.same("each method with numbers", CALLS.length, withNumbers);
        for (String[] call : CALLS) {
            near(methods.get(call[0]), call[1]);
            far(methods.get(call[0]), call);
        }
        Check.end("FarTest");
    }

    /** Three questions, conditions, jumps, a rim; 0 has begun, 3 and 4 have sent, 7 is new. */
    private static Askhouse house() {
        Askhouse house = Check.pages(2);
        house.question(0, 1, 2, 0);
        house.question(0, 3, 0, 5);
        house.question(0, 0, 2, 0);
        house.is(0, 4, 1);
        house.inGroup(0);
        Check.sendWith(house, 3, 3, 1, 1);
        Check.sendWith(house, 4, 3, 1, 1);
        house.rim(0, 3, 4);
        Check.begin(house, 1);
        house.answer(0, 0, -1, 1);
        return house;
    }

    private static Object[] arguments(Method method, String told) {
        String[] words = told.split(" ");
        Object[] arguments = new Object[words.length];
        for (int k = 0; k < words.length; k++) {
            int number = Integer.parseInt(words[k]);
            arguments[k] = method.getParameterTypes()[k] == boolean.class ? (Object) (number == 1) : (Object) number;
        }
        return arguments;
    }

    private static Object outcome(Method method, Askhouse house, Object[] arguments) {
        try {
            return method.invoke(house, arguments);
        } catch (InvocationTargetException e) {
            throw (RuntimeException) e.getCause();
        } catch (IllegalAccessException e) {
            throw new AssertionError(e);
        }
    }

    /** What the table tells is taken; but for steps that he cannot take yet. */
    private static void near(Method method, String told) {
        String name = method.getName();
        boolean isTaken = true;
        try {
            outcome(method, house(), arguments(method, told));
        } catch (RuntimeException e) {
            isTaken = false;
        }
        Check.same(name + " is taken", isTaken, !name.equals("back") && !name.equals("send"));
    }

    private static void far(Method method, String[] call) {
        String[] due = call[2].split(" ");
        Askhouse house = house();
        Object[] all = arguments(method, call[1]);
        for (int number : FAR) {
            for (int k = 0; k < due.length; k++) {
                if (!due[k].equals("-")) {
                    Object[] arguments = arguments(method, call[1]);
                    arguments[k] = number;
                    all[k] = number;
                    due(call[0] + " with " + number + " at " + k, method, house, arguments, due[k]);
                }
            }
            // All of them at once: what is named first.
            String first = call[2].contains("I") ? "I" : "A";
            due(call[0] + " with " + number, method, house, all, first);
        }
    }

    private static void due(String what, Method method, Askhouse house, Object[] arguments, String due) {
        switch (due) {
            case "I":
                Check.refused(what, Check.INDEX, house, () -> outcome(method, house, arguments));
                break;
            case "A":
                Check.refused(what, Check.ARGUMENT, house, () -> outcome(method, house, arguments));
                break;
            case "S":
                Check.refused(what, Check.STATE, house, () -> outcome(method, house, arguments));
                break;
            default:
                String before = Check.all(house);
                Check.same(what, String.valueOf(outcome(method, house, arguments)), due);
                Check.same(what + ", nothing changed", Check.all(house), before);
                break;
        }
    }
}
