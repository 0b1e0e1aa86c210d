import java.lang.reflect.Constructor;
import java.lang.reflect.Field;
import java.lang.reflect.Method;
import java.lang.reflect.Modifier;
import java.util.Set;
import java.util.TreeSet;

/** The face is the document's: nothing is wanting, and nothing else can be seen from outside. */
public final class FaceTest {
    private static final String IAE = " throws java.lang.IllegalArgumentException";
    private static final String IAE_ISE = IAE + ",java.lang.IllegalStateException";
    private static final String IOOBE = " throws java.lang.IndexOutOfBoundsException";

    private static final Set<String> DUE = Set.of(
            "public int GuaranteeBook.guarantee(int,long,int,int,boolean,int)" + IAE_ISE,
            "public boolean GuaranteeBook.first(int)",
            "public int GuaranteeBook.reserve(int,int,long)" + IAE_ISE,
            "public int GuaranteeBook.end(int,int)" + IAE,
            "public long GuaranteeBook.reduce(int,long)" + IAE,
            "public long GuaranteeBook.claim(int,long)" + IAE,
            "public boolean GuaranteeBook.close(int)",
            "public boolean GuaranteeBook.fails(int,boolean)",
            "public boolean GuaranteeBook.tick(int)",
            "public long GuaranteeBook.interest(int)" + IAE,
            "public long GuaranteeBook.free(int)",
            "public int GuaranteeBook.list(int,int)",
            "public long GuaranteeBook.look(int,int)" + IOOBE,
            "public long GuaranteeBook.of(int,int)" + IOOBE,
            "public int GuaranteeBook.count(int)");

    public static void main(String[] args) {
        Class<GuaranteeBook> face = GuaranteeBook.class;
        Check.due("the class", "public final", Modifier.toString(face.getModifiers()));
        Check.due("NONE", -1, GuaranteeBook.NONE);
        methods(face);
        fields(face);
        constructors(face);
        inside(face);
        Check.report();
    }

    private static void methods(Class<?> face) {
        Set<String> seen = new TreeSet<>();
        Set<String> names = new TreeSet<>();
        for (Method method : face.getDeclaredMethods()) {
            if (!Modifier.isPrivate(method.getModifiers())) {
                seen.add(method.toString());
                names.add(method.getName());
            }
        }
        Check.due("the methods", new TreeSet<>(DUE), seen);
        for (Method method : face.getDeclaredMethods()) {
            if (Modifier.isPrivate(method.getModifiers())) {
                Check.due(method + " bears a public name", false, names.contains(method.getName()));
            }
        }
    }

    private static void fields(Class<?> face) {
        Set<String> seen = new TreeSet<>();
        for (Field field : face.getDeclaredFields()) {
            if (!Modifier.isPrivate(field.getModifiers())) {
                seen.add(field.toString());
            }
            if (Modifier.isStatic(field.getModifiers())) {
                Check.due(field + " is final", true, Modifier.isFinal(field.getModifiers()));
            }
        }
        Check.due("the constants", Set.of("public static final int GuaranteeBook.NONE"), seen);
    }

    private static void constructors(Class<?> face) {
        Set<String> seen = new TreeSet<>();
        for (Constructor<?> constructor : face.getDeclaredConstructors()) {
            seen.add(constructor.toString());
        }
        Check.due("the constructors", Set.of("public GuaranteeBook()"), seen);
    }

    /** What rules 1, 2, 5 and 11 of the language bound: classes, their fields, and methods' parameters. */
    private static void inside(Class<?> face) {
        Class<?>[] classes = face.getDeclaredClasses();
        Check.due("at most 12 classes with the face's own", true, classes.length < 12);
        bounded(face);
        for (Class<?> own : classes) {
            int modifiers = own.getModifiers();
            Check.due(own + " is static", true, Modifier.isStatic(modifiers));
            Check.due(own + " is hidden", false, Modifier.isPublic(modifiers) || Modifier.isProtected(modifiers));
            bounded(own);
        }
    }

    private static void bounded(Class<?> own) {
        int fields = 0;
        for (Field field : own.getDeclaredFields()) {
            boolean constant = Modifier.isStatic(field.getModifiers());
            Check.due(field + " is no state of the class", true, !constant || Modifier.isFinal(field.getModifiers()));
            fields += constant ? 0 : 1;
        }
        Check.due(own + " has at most 20 fields", true, fields <= 20);
        for (Method method : own.getDeclaredMethods()) {
            Check.due(method + " takes at most 7", true, method.getParameterCount() <= 7);
        }
        for (Constructor<?> constructor : own.getDeclaredConstructors()) {
            Check.due(constructor + " takes at most 7", true, constructor.getParameterCount() <= 7);
        }
    }
}
