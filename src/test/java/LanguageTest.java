import com.sun.management.ThreadMXBean;
import java.io.DataInputStream;
import java.io.IOException;
import java.io.InputStream;
import java.lang.management.ManagementFactory;
import java.lang.reflect.Executable;
import java.lang.reflect.Field;
import java.lang.reflect.Modifier;
import java.util.ArrayList;
import java.util.Arrays;
import java.util.List;
import java.util.Set;

/** The rules of LANGUAGE.md that can be read off the compiled class, and what objects and calls cost. */
public final class LanguageTest {
    private static final Sheet SHEET = new Sheet("LanguageTest");
    private static final ThreadMXBean THREADS = (ThreadMXBean) ManagementFactory.getThreadMXBean();
    /** Far less than an object for each call. */
    private static final int HARDLY_ANY = 64;
    private static final Set<Class<?>> CONSTANTS = Set.of(int.class, long.class, boolean.class, char.class,
            String.class, int[].class, long[].class, char[].class, byte[].class);
    private static final Set<String> LIBRARY = Set.of("java/lang/Object.<init>", "java/lang/System.arraycopy",
            "java/util/Arrays.fill", "java/util/Arrays.copyOf", "java/util/Arrays.copyOfRange");
    /** Their static functions over ints and longs. */
    private static final Set<String> FUNCTIONS = Set.of("java/lang/Math", "java/lang/Integer", "java/lang/Long");

    public static void main(String[] args) throws IOException {
        List<Class<?>> classes = new ArrayList<>(Arrays.asList(SecretLoom.class.getDeclaredClasses()));
        classes.add(SecretLoom.class);
        SHEET.sentence("11: the file has at most some twelve classes");
        SHEET.due("at most twelve: " + classes, classes.size() <= 12, true);
        for (Class<?> c : classes) {
            fewFields(c);
            staticFieldsAreConstants(c);
            fewParameters(c);
            onlyTheLibrary(c);
        }
        callsMakeNothing();
        objectsAreSmall();
        SHEET.end();
    }

    private static void fewFields(Class<?> c) {
        SHEET.sentence("11: a class some twenty fields beside its constants");
        int count = 0;
        for (Field f : c.getDeclaredFields()) {
            count += Modifier.isStatic(f.getModifiers()) ? 0 : 1;
        }
        SHEET.due("at most twenty in " + c + ": " + count, count <= 20, true);
    }

    private static void staticFieldsAreConstants(Class<?> c) {
        SHEET.sentence("5: Static fields are final: constants");
        SHEET.due("no enum: " + c, c.isEnum(), false);
        for (Field f : c.getDeclaredFields()) {
            if (Modifier.isStatic(f.getModifiers())) {
                SHEET.due("final: " + f, Modifier.isFinal(f.getModifiers()), true);
                SHEET.due("a constant: " + f, CONSTANTS.contains(f.getType()), true);
            }
        }
    }

    private static void fewParameters(Class<?> c) {
        SHEET.sentence("11: A method takes at most seven parameters");
        List<Executable> all = new ArrayList<>(Arrays.asList(c.getDeclaredMethods()));
        all.addAll(Arrays.asList(c.getDeclaredConstructors()));
        for (Executable one : all) {
            SHEET.due("at most seven: " + one, one.getParameterCount() <= 7, true);
        }
    }

    private static void onlyTheLibrary(Class<?> c) throws IOException {
        SHEET.sentence("4: The library: only what stands here");
        for (String called : called(c)) {
            String owner = called.substring(0, called.indexOf('.'));
            boolean function = FUNCTIONS.contains(owner) && !called.endsWith("Exact");
            boolean own = owner.equals("SecretLoom") || owner.startsWith("SecretLoom$");
            SHEET.due("allowed: " + called, own || function || LIBRARY.contains(called), true);
        }
    }

    /** By the constant pool of the class file: every method that is called, as owner.name. */
    private static List<String> called(Class<?> c) throws IOException {
        try (InputStream file = c.getResourceAsStream("/" + c.getName() + ".class");
                DataInputStream in = new DataInputStream(file)) {
            in.skipBytes(8);
            int size = in.readUnsignedShort();
            Object[] pool = new Object[size];
            for (int i = 1; i < size; i++) {
                int tag = in.readUnsignedByte();
                pool[i] = entry(in, tag);
                // Longs and doubles take two places.
                i += tag == 5 || tag == 6 ? 1 : 0;
            }
            List<String> called = new ArrayList<>();
            for (Object one : pool) {
                if (one instanceof int[] method && method.length == 3) {
                    int owner = ((int[]) pool[method[1]])[0];
                    int name = ((int[]) pool[method[2]])[0];
                    called.add(pool[owner] + "." + pool[name]);
                }
            }
            return called;
        }
    }

    /** A text, the places that an entry names (three numbers for a method), or null. */
    private static Object entry(DataInputStream in, int tag) throws IOException {
        switch (tag) {
            case 1:
                return in.readUTF();
            case 3:
            case 4:
                in.skipBytes(4);
                return null;
            case 5:
            case 6:
                in.skipBytes(8);
                return null;
            case 7:
            case 8:
                return new int[] {in.readUnsignedShort()};
            case 9:
            case 12:
                return new int[] {in.readUnsignedShort(), in.readUnsignedShort()};
            case 10:
            case 11:
                return new int[] {tag, in.readUnsignedShort(), in.readUnsignedShort()};
            default:
                // Method handles and what is linked by them: lambdas, method references, texts joined by +.
                SHEET.tell("a constant of tag " + tag);
                in.skipBytes(tag == 15 ? 3 : tag == 17 || tag == 18 ? 4 : 2);
                return null;
        }
    }

    private static long made() {
        return THREADS.getCurrentThreadAllocatedBytes();
    }

    /** Some 420 calls, the dearest ones among them. */
    private static void useUp(SecretLoom x) {
        int unsafe = 0;
        for (int round = 0; round < 4; round++) {
            x.clear();
            for (int place = 0; place < 62; place += 2) {
                x.instruction(Code.LOAD, place / 2 % 8);
                x.instruction(Code.IFZERO, place * 37 % 64 & ~1);
            }
            x.instruction(Code.JUMP, round * 2);
            x.instruction(Code.HALT, 0);
            for (int k = 0; k < 8; k++) {
                x.level(Code.VARIABLE, k, k + round & 3);
                x.let(round % 2, k, k);
                x.lay(round % 2, 1, k, k);
                unsafe += x.check();
            }
            x.surrounding(5);
            x.pile(5, 0);
            x.junction(5);
            x.run(round % 2, 10_000);
            x.ran(round % 2, 1);
            x.memory(0, 5);
        }
        for (int m = 0; m < 2; m++) {
            x.run(m, 10_000);
            x.out(m, 0, 0);
            x.same(3);
        }
        if (unsafe != 0 || x.ran(1, 0) != 0) {
            SHEET.tell("these programs should be well formed, safe and without end");
        }
    }

    private static void callsMakeNothing() {
        SHEET.sentence("12: What a run makes is counted");
        long least = Long.MAX_VALUE;
        // What the machine itself makes when it first comes to a call does not count: so the least of some.
        for (int round = 0; round < 5; round++) {
            SecretLoom x = new SecretLoom();
            long before = made();
            useUp(x);
            least = Math.min(least, made() - before);
        }
        SHEET.due("hardly any bytes made by calls: " + least, least <= HARDLY_ANY, true);
    }

    private static void objectsAreSmall() {
        SHEET.sentence("12: An object may be made by any method, and none in a loop without a bound");
        long before = made();
        SecretLoom[] looms = new SecretLoom[1_000];
        for (int i = 0; i < looms.length; i++) {
            looms[i] = new SecretLoom();
        }
        long each = (made() - before) / looms.length;
        SHEET.due("at most 10,000 bytes an object: " + each, each <= 10_000, true);
        SHEET.due("the last one's check()", looms[999].check(), -1);
    }
}
