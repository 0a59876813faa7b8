import java.lang.management.ManagementFactory;
import java.lang.reflect.Constructor;
import java.lang.reflect.Field;
import java.lang.reflect.Method;
import java.lang.reflect.Modifier;
import java.util.Set;
import java.util.TreeSet;

/** The face has what the document says and no more, and dear runs stay within the room. */
public final class FaceAndRoom {
    private static final Set<String> METHODS = Set.of(
        "type(5) IllegalStateException", "erase(0) ", "put(2) IllegalArgumentException",
        "drop(1) IllegalArgumentException", "undo(0) IllegalStateException", "symbol(3) IllegalArgumentException",
        "line(3) IllegalArgumentException", "diagnostic(2) IllegalArgumentException", "count(1) IllegalArgumentException");
    private static final Set<String> CONSTANTS = Set.of("NONE", "SYNTAX", "UNKNOWN", "NOLIST", "NOSUM", "MISMATCH");

    public static void main(String[] args) {
        methods();
        fields();
        classesInside();
        constants();
        room();
        Due.end();
    }

    private static void truth(String what, boolean holds) {
        Due.due(what, 1, holds ? 1 : 0);
    }

    private static void methods() {
        Set<String> found = new TreeSet<>();
        Set<String> names = new TreeSet<>();
        for (Method method : CheckDaemon.class.getDeclaredMethods()) {
            if (Modifier.isPrivate(method.getModifiers())) {
                names.add(method.getName());
                continue;
            }
            StringBuilder thrown = new StringBuilder();
            for (Class<?> one : method.getExceptionTypes()) {
                thrown.append(one.getSimpleName());
            }
            found.add(method.getName() + "(" + method.getParameterCount() + ") " + thrown);
            truth(method + " is public, answers int", method.getModifiers() == Modifier.PUBLIC && method.getReturnType() == int.class);
            for (Class<?> one : method.getParameterTypes()) {
                truth(method + " takes ints", one == int.class);
            }
        }
        truth("the methods are " + found, found.equals(METHODS));
        for (String method : METHODS) {
            truth("no private " + method, !names.contains(method.substring(0, method.indexOf('('))));
        }
        Constructor<?>[] constructors = CheckDaemon.class.getDeclaredConstructors();
        truth("one public constructor", constructors.length == 1 && constructors[0].getModifiers() == Modifier.PUBLIC
            && constructors[0].getParameterCount() == 0);
        truth("extends and implements nothing", CheckDaemon.class.getSuperclass() == Object.class
            && CheckDaemon.class.getInterfaces().length == 0);
        truth("public and final", CheckDaemon.class.getModifiers() == (Modifier.PUBLIC | Modifier.FINAL));
    }

    private static void fields() {
        Set<String> found = new TreeSet<>();
        for (Field field : CheckDaemon.class.getDeclaredFields()) {
            if (!Modifier.isPrivate(field.getModifiers())) {
                found.add(field.getName());
                truth(field + " is a constant", field.getType() == int.class
                    && field.getModifiers() == (Modifier.PUBLIC | Modifier.STATIC | Modifier.FINAL));
            }
            truth(field + " is final if static", !Modifier.isStatic(field.getModifiers()) || Modifier.isFinal(field.getModifiers()));
        }
        truth("the constants are " + found, found.equals(CONSTANTS));
    }

    private static void classesInside() {
        Class<?>[] inside = CheckDaemon.class.getDeclaredClasses();
        truth("at most twelve classes", inside.length < 12);
        for (Class<?> one : inside) {
            truth(one + " is static and not public", Modifier.isStatic(one.getModifiers())
                && !Modifier.isPublic(one.getModifiers()) && !Modifier.isProtected(one.getModifiers()));
            int own = 0;
            for (Field field : one.getDeclaredFields()) {
                own += Modifier.isStatic(field.getModifiers()) ? 0 : 1;
            }
            truth(one + " has at most twenty fields", own <= 20);
            for (Method method : one.getDeclaredMethods()) {
                truth(method + " takes at most seven", method.getParameterCount() <= 7);
            }
        }
    }

    private static void constants() {
        int[] want = {-1, 1, 2, 3, 4, 5};
        int[] got = {CheckDaemon.NONE, CheckDaemon.SYNTAX, CheckDaemon.UNKNOWN, CheckDaemon.NOLIST, CheckDaemon.NOSUM, CheckDaemon.MISMATCH};
        for (int k = 0; k < want.length; k++) {
            Due.due("constant " + k, want[k], got[k]);
        }
    }

    private static long allocated() {
        com.sun.management.ThreadMXBean threads = (com.sun.management.ThreadMXBean) ManagementFactory.getThreadMXBean();
        return threads.getThreadAllocatedBytes(Thread.currentThread().getId());
    }

    private static void putDearly(CheckDaemon x, int puts) {
        String text = "A=A|B|C|D|E|F|G|H|I|J|K|L|M|N|O|P|Q|R|S|T|U|V|W|X|Y|Z|A|B|C|";
        int[][] numbers = {Due.packed(text.substring(0, 20)), Due.packed(text.substring(20, 40)), Due.packed(text.substring(40, 59) + " ")};
        for (int k = 0; k < puts; k++) {
            for (int[] n : numbers) {
                x.type(n[0], n[1], n[2], n[3], n[4]);
            }
            x.put(k % 8, k % 12);
        }
    }

    /** An element has a byte or more, so few bytes mean few elements, and fewer objects; each object here gets 512 calls. */
    private static void room() {
        long before = allocated();
        putDearly(new CheckDaemon(), 128);
        long puts = allocated() - before;
        truth("128 puts of long lines take " + puts + " bytes", puts < 1_000_000);
        CheckDaemon x = new CheckDaemon();
        putDearly(x, 24);
        before = allocated();
        for (int k = 0; k < 104; k++) {
            x.symbol(0, 0, 3);
            x.diagnostic(k, 2);
            x.count(k % 6);
            x.line(0, k % 12, 4);
        }
        long asks = allocated() - before;
        truth("questions take " + asks + " bytes", asks < 20_000);
    }
}
