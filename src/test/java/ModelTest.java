import java.lang.reflect.InvocationTargetException;
import java.lang.reflect.Method;
import java.util.ArrayList;
import java.util.Arrays;
import java.util.HashMap;
import java.util.List;
import java.util.Map;
import java.util.Random;

/** Long runs of drawn calls: the program and PlainModel must answer the same. */
public final class ModelTest {
    private static final int CALLS_OF_OBJECT = 512;
    private static final String[] CHANGES = {
        "root", "ask", "ask", "ask", "ask", "ask", "reserve", "reserve", "reserve", "give", "back", "back", "grow",
        "grow", "shrink", "shrink", "transfer", "policy", "day", "quarantine"};
    // Mostly accepted, so that runs reach the end of the log, or that of the records.
    private static final String[] CROWDING = {
        "ask", "ask", "ask", "ask", "ask", "ask", "ask", "ask", "ask", "ask", "reserve", "reserve", "grow"};
    private static final String[] FILLING = {
        "ask", "ask", "ask", "ask", "ask", "ask", "ask", "ask", "reserve", "give", "grow", "shrink", "transfer",
        "transfer", "day", "day", "quarantine", "root"};
    private static final String[] LOOKS = {
        "holderOf", "field", "field", "told", "freeAt", "blocks", "block", "block", "used", "cuts", "cut", "cut",
        "log", "replay", "same"};

    // No number may break a call: among these are those whose multiples and sums wrap around.
    private static final int[] WILD = {
        Integer.MIN_VALUE, Integer.MAX_VALUE, Integer.MIN_VALUE + 1, -2, -32, 33, 64, 1 << 30, 1 << 29, -1 << 30, 200,
        300, 512, 1000, 10000, 100000};

    private final Checks checks = new Checks();
    private final Map<String, Integer> answers = new HashMap<>();
    private final Map<String, Method[]> methods = new HashMap<>();
    private Random random;
    private int shortestRoot;
    private int policyHeat;
    private int changeShare;
    private String[] changes;
    private PlainModel model;

    public static void main(String[] args) {
        new ModelTest().all();
    }

    private void all() {
        for (int run = 0; run < 600; run++) {
            oneRun(run);
        }
        mustHaveSeen("ask -1", "ask -2", "ask -4", "ask -5", "ask -6", "reserve -1", "reserve -2", "reserve -5",
            "reserve -6", "grow -1", "grow -2", "grow -5", "shrink -1", "shrink -2", "shrink -5",
            "root throws.IllegalArgumentException", "root throws.IllegalStateException",
            "give throws.IllegalStateException", "back throws.IllegalStateException",
            "transfer throws.IllegalStateException", "day throws.IllegalArgumentException",
            "ask throws.UnsupportedOperationException", "root throws.UnsupportedOperationException",
            "grow throws.UnsupportedOperationException", "day throws.UnsupportedOperationException",
            "ask -3", "reserve -3", "same true", "same false");
        checks.finish("ModelTest");
    }

    private void mustHaveSeen(String... kinds) {
        for (String kind : kinds) {
            checks.due("drawn at least ten times: " + kind, answers.getOrDefault(kind, 0) >= 10, true);
        }
    }

    private void oneRun(int run) {
        random = new Random(run);
        shortestRoot = run % 3 == 0 ? 24 : run % 3 == 1 ? 8 : 0;
        policyHeat = run % 4 == 0 ? 0 : 300;
        changes = run % 5 == 0 ? FILLING : run % 5 == 1 ? CROWDING : CHANGES;
        changeShare = run % 5 < 2 ? 95 : 60;
        model = new PlainModel();
        PrefixRegistry program = new PrefixRegistry();
        List<String> told = new ArrayList<>();
        for (int n = 0; n < CALLS_OF_OBJECT; n++) {
            String name = n < 3 ? "root" : draw(random.nextInt(100) < changeShare ? changes : LOOKS);
            Object[] arguments = sometimesWild(argumentsOf(name));
            String want = outcome(model, 1, name, arguments);
            String got = outcome(program, 0, name, arguments);
            answers.merge(name + " " + want, 1, Integer::sum);
            told.add(name + Arrays.toString(arguments) + " = " + want);
            checks.due("run " + run + ", call " + n + " " + name + Arrays.toString(arguments), got, want);
            if (!got.equals(want)) {
                System.out.println(String.join("\n", told));
                break;
            }
        }
    }

    private String draw(String[] names) {
        return names[random.nextInt(names.length)];
    }

    private String outcome(Object object, int which, String name, Object[] arguments) {
        try {
            return String.valueOf(methodOf(name)[which].invoke(object, arguments));
        } catch (InvocationTargetException e) {
            return "throws." + e.getCause().getClass().getSimpleName();
        } catch (IllegalAccessException e) {
            return "no access";
        }
    }

    private Method[] methodOf(String name) {
        return methods.computeIfAbsent(name, n -> new Method[] {
            find(PrefixRegistry.class, n), find(PlainModel.class, n)});
    }

    private static Method find(Class<?> owner, String name) {
        for (Method m : owner.getMethods()) {
            if (m.getName().equals(name) && m.getDeclaringClass() == owner) {
                return m;
            }
        }
        throw new IllegalStateException(name);
    }

    private Object[] argumentsOf(String name) {
        switch (name) {
            case "root": return rootArguments();
            case "ask": return askArguments();
            case "reserve": return reserveArguments();
            case "give": return new Object[] {recordOf(2)};
            case "back": case "grow": return new Object[] {record()};
            case "blocks": case "used": case "cuts": return new Object[] {record()};
            case "shrink": return new Object[] {record(), random.nextBoolean()};
            case "transfer": return new Object[] {record(), holder()};
            case "policy": return new Object[] {near(0, 3), random.nextInt(30) == 0 ? near(0, 1000) : thousandths()};
            case "day": return new Object[] {nextDay()};
            case "quarantine": return new Object[] {random.nextInt(20) == 0 ? near(0, 1000) : random.nextInt(4)};
            case "holderOf": return new Object[] {addressIn(record()), near(0, 4)};
            case "field": return new Object[] {record(), near(0, 6)};
            case "told": return new Object[] {near(0, 3)};
            case "freeAt": return new Object[] {record(), near(0, 32)};
            case "block": case "cut": return new Object[] {record(), near(0, 12), random.nextBoolean()};
            case "log": return new Object[] {near(0, model.told(3) - 1), near(0, 3)};
            case "replay": return new Object[] {random.nextBoolean() ? model.told(3) : near(0, model.told(3))};
            default: return new Object[0];
        }
    }

    private Object[] sometimesWild(Object[] arguments) {
        int which = random.nextInt(WILD.length * 12);
        int place = arguments.length == 0 ? 0 : random.nextInt(arguments.length);
        if (which < WILD.length && arguments.length > 0 && arguments[place] instanceof Integer) {
            arguments[place] = WILD[which];
        }
        return arguments;
    }

    private Object[] rootArguments() {
        int length = shortestRoot == 0 ? near(0, 31) : shortestRoot + random.nextInt(8);
        int[] starts = {0, Integer.MIN_VALUE, Integer.MAX_VALUE, -1, 0x0A000000, random.nextInt()};
        int start = starts[random.nextInt(starts.length)];
        boolean cutsOff = length >= 0 && length <= 31 && random.nextInt(12) > 0;
        return new Object[] {cutsOff ? cutTo(start, length) : start, length, holder()};
    }

    private Object[] askArguments() {
        int record = recordOf(1);
        int own = model.told(0) > record && record >= 0 ? model.field(record, 1) : 8;
        int longer = 1 + random.nextInt(Math.max(1, Math.min(8, 32 - own)));
        return new Object[] {record, random.nextInt(10) == 0 ? near(0, 32) : own + longer, random.nextBoolean()};
    }

    private Object[] reserveArguments() {
        Object[] asked = askArguments();
        int record = (Integer) asked[0];
        int length = (Integer) asked[1];
        int address = addressIn(record);
        boolean cutsOff = length >= 0 && length <= 32 && random.nextInt(12) > 0;
        return new Object[] {record, cutsOff ? cutTo(address, length) : address, length};
    }

    private static int cutTo(int address, int length) {
        return length == 0 ? 0 : address >> (32 - length) << (32 - length);
    }

    private int near(int low, int high) {
        return low - 1 + random.nextInt(Math.max(1, high - low + 3));
    }

    private int record() {
        return random.nextInt(25) == 0 ? near(0, model.told(0)) : random.nextInt(Math.max(1, model.told(0)));
    }

    // Most drawn records are RETURNED after a while: some tries find one in the state that is wanted.
    private int recordOf(int state) {
        int found = record();
        for (int n = 0; n < 3 && random.nextInt(20) > 0; n++) {
            if (found >= 0 && found < model.told(0) && model.field(found, 5) == state) {
                return found;
            }
            found = record();
        }
        return found;
    }

    private int holder() {
        return random.nextInt(25) == 0 ? near(0, 9999) + (random.nextBoolean() ? 0 : 9999) : random.nextInt(3);
    }

    private int thousandths() {
        return policyHeat == 0 ? 0 : random.nextInt(policyHeat);
    }

    private int nextDay() {
        int kind = random.nextInt(40);
        return kind == 0 ? 100001 : kind < 4 ? model.told(1) - 1 : model.told(1) + random.nextInt(3);
    }

    private int addressIn(int record) {
        if (record < 0 || record >= model.told(0) || random.nextInt(15) == 0) {
            return random.nextInt();
        }
        int length = model.field(record, 1);
        int inside = length == 32 ? 0 : random.nextInt() >>> length;
        return model.field(record, 0) | inside;
    }
}
