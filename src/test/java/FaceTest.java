import java.lang.management.ManagementFactory;
import java.lang.reflect.Constructor;
import java.lang.reflect.Field;
import java.lang.reflect.Method;
import java.lang.reflect.Modifier;
import java.util.Arrays;
import java.util.TreeSet;

/** The public face is the document's and no more; calls keep the room small. */
public final class FaceTest {
    private static final String[] FACE = {
        "int root(int, int, int) IllegalArgumentException IllegalStateException UnsupportedOperationException",
        "int ask(int, int, boolean) UnsupportedOperationException",
        "int reserve(int, int, int) UnsupportedOperationException",
        "void give(int) IndexOutOfBoundsException IllegalStateException UnsupportedOperationException",
        "int back(int) IndexOutOfBoundsException IllegalStateException UnsupportedOperationException",
        "int grow(int) UnsupportedOperationException",
        "int shrink(int, boolean) UnsupportedOperationException",
        "int transfer(int, int) IndexOutOfBoundsException IllegalArgumentException IllegalStateException"
            + " UnsupportedOperationException",
        "void policy(int, int) IllegalArgumentException UnsupportedOperationException",
        "int day(int) IllegalArgumentException UnsupportedOperationException",
        "void quarantine(int) IllegalArgumentException UnsupportedOperationException",
        "int holderOf(int, int)",
        "int field(int, int) IndexOutOfBoundsException IllegalArgumentException",
        "int told(int)",
        "long freeAt(int, int) IndexOutOfBoundsException IllegalArgumentException",
        "int blocks(int) IndexOutOfBoundsException",
        "int block(int, int, boolean) IndexOutOfBoundsException",
        "long used(int) IndexOutOfBoundsException",
        "int cuts(int) IndexOutOfBoundsException",
        "int cut(int, int, boolean) IndexOutOfBoundsException",
        "int log(int, int) IndexOutOfBoundsException IllegalArgumentException",
        "int replay(int) IllegalArgumentException",
        "boolean same()"};

    private static final Checks CHECKS = new Checks();

    public static void main(String[] args) {
        classItself();
        methods();
        constants();
        nestedClasses();
        room();
        CHECKS.finish("FaceTest");
    }

    private static void classItself() {
        Class<?> face = PrefixRegistry.class;
        CHECKS.due("public and final", Modifier.toString(face.getModifiers()), "public final");
        Constructor<?>[] made = face.getDeclaredConstructors();
        CHECKS.due("constructors", made.length, 1);
        CHECKS.due("constructor", made[0].toString(), "public PrefixRegistry()");
    }

    private static void methods() {
        TreeSet<String> seen = new TreeSet<>();
        TreeSet<String> open = new TreeSet<>();
        for (Method m : Face.methods()) {
            seen.add(Face.textOf(m));
            open.add(m.getName());
            CHECKS.due(m.getName() + " is", Modifier.toString(m.getModifiers()), "public");
        }
        CHECKS.due("methods", seen, new TreeSet<>(Arrays.asList(FACE)));
        TreeSet<String> hidden = hiddenMethods();
        hidden.retainAll(open);
        CHECKS.due("private methods with a public one's name", hidden, "[]");
    }

    private static TreeSet<String> hiddenMethods() {
        TreeSet<String> hidden = new TreeSet<>();
        for (Method m : PrefixRegistry.class.getDeclaredMethods()) {
            if (Modifier.isPrivate(m.getModifiers())) {
                hidden.add(m.getName());
            }
        }
        for (Class<?> inside : PrefixRegistry.class.getDeclaredClasses()) {
            for (Method m : inside.getDeclaredMethods()) {
                hidden.add(m.getName());
            }
        }
        return hidden;
    }

    private static void constants() {
        CHECKS.due("NONE", PrefixRegistry.NONE, -1);
        CHECKS.due("TAKEN", PrefixRegistry.TAKEN, -1);
        CHECKS.due("SHAPE", PrefixRegistry.SHAPE, -2);
        CHECKS.due("FULL", PrefixRegistry.FULL, -3);
        CHECKS.due("POLICY", PrefixRegistry.POLICY, -4);
        CHECKS.due("NOT_GIVEN", PrefixRegistry.NOT_GIVEN, -5);
        CHECKS.due("DEEP", PrefixRegistry.DEEP, -6);
        TreeSet<String> open = new TreeSet<>();
        for (Field f : PrefixRegistry.class.getDeclaredFields()) {
            if (!Modifier.isPrivate(f.getModifiers())) {
                open.add(f.getName());
                CHECKS.due(f.getName() + " is", Modifier.toString(f.getModifiers()), "public static final");
            }
            boolean loose = Modifier.isStatic(f.getModifiers()) && !Modifier.isFinal(f.getModifiers());
            CHECKS.due("static state: " + f.getName(), loose, false);
        }
        CHECKS.due("constants", open, "[DEEP, FULL, NONE, NOT_GIVEN, POLICY, SHAPE, TAKEN]");
    }

    private static void nestedClasses() {
        for (Class<?> inside : PrefixRegistry.class.getDeclaredClasses()) {
            int how = inside.getModifiers();
            CHECKS.due(inside + " is open", Modifier.isPublic(how) || Modifier.isProtected(how), false);
            CHECKS.due(inside + " is static", Modifier.isStatic(how), true);
        }
    }

    // A run of the dearest calls makes nothing: what an object needs is made with it.
    private static void room() {
        PrefixRegistry warm = new PrefixRegistry();
        busy(warm);
        long before = madeBytes();
        PrefixRegistry x = new PrefixRegistry();
        long made = madeBytes();
        busy(x);
        long after = madeBytes();
        CHECKS.due("a new object is small", made - before < 40000, true);
        CHECKS.due("its calls make nothing, but " + (after - made), after - made < 4000, true);
    }

    private static long madeBytes() {
        return ((com.sun.management.ThreadMXBean) ManagementFactory.getThreadMXBean())
            .getThreadAllocatedBytes(Thread.currentThread().getId());
    }

    private static void busy(PrefixRegistry x) {
        x.root(0, 0, 0);
        for (int n = 0; n < 150; n++) {
            x.ask(0, 10 + n % 20, n % 2 == 0);
        }
        for (int n = 0; n < 90; n++) {
            x.replay(151);
            x.cuts(0);
            x.block(0, n, true);
            x.same();
        }
    }
}
