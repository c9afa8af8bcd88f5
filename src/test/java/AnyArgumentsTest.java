import java.lang.reflect.InvocationTargetException;
import java.lang.reflect.Method;
import java.util.ArrayList;
import java.util.Arrays;
import java.util.Comparator;
import java.util.List;

/** Whatever the arguments and the state are, a call throws nothing but what it names, and the log tells all. */
public final class AnyArgumentsTest extends Calls {
    private static final Object[] INTS = {
        LOW, LOW + 1, -257, -32, -2, -1, 0, 1, 2, 3, 4, 8, 16, 24, 31, 32, 33, 199, 200, 300, 9999, TEN, 1 << 29,
        1 << 30, HIGH - 1, HIGH};
    private static final Object[] TRUTHS = {false, true};

    private static final Checks CHECKS = new Checks();

    public static void main(String[] args) {
        List<Method> methods = Face.methods();
        methods.sort(Comparator.comparing(Method::getName));
        List<List<Call>> states = List.of(run(), ten(), stairs(), states(), filled(), crowd(200), written(300),
            run(root(0, 0, 0), ask(0, 1, false), grow(1)), then(crowd(200), back(199), quarantine(9), back(198)));
        for (int s = 0; s < states.size(); s++) {
            PrefixRegistry object = new PrefixRegistry();
            for (Call call : states.get(s)) {
                call.on(object);
            }
            // Those that look come before and behind those that change.
            for (int round = 0; round < 2; round++) {
                for (Method m : methods) {
                    all("state " + s, object, m, new ArrayList<>());
                }
            }
            isToldByItsLog("state " + s, object);
        }
        CHECKS.finish("AnyArgumentsTest");
    }

    private static void all(String where, PrefixRegistry object, Method m, List<Object> arguments) {
        int next = arguments.size();
        if (next == m.getParameterCount()) {
            one(where, object, m, arguments);
            return;
        }
        for (Object value : m.getParameterTypes()[next] == int.class ? INTS : TRUTHS) {
            arguments.add(value);
            all(where, object, m, arguments);
            arguments.remove(next);
        }
    }

    private static void one(String where, PrefixRegistry object, Method m, List<Object> arguments) {
        boolean fine = true;
        Object thrown = null;
        try {
            m.invoke(object, arguments.toArray());
        } catch (InvocationTargetException e) {
            thrown = e.getCause().getClass();
            fine = Arrays.asList(m.getExceptionTypes()).contains(thrown);
        } catch (IllegalAccessException e) {
            fine = false;
        }
        CHECKS.due(where + ", " + m.getName() + arguments + " throws " + thrown + ", which it names", fine, true);
    }

    private static void isToldByItsLog(String where, PrefixRegistry object) {
        CHECKS.due(where + ", entries", object.told(3) <= 300, true);
        CHECKS.due(where + ", records", object.told(0) <= 200, true);
        CHECKS.due(where + ", replay", object.replay(object.told(3)), object.told(0));
        CHECKS.due(where + ", same", object.same(), true);
    }
}
