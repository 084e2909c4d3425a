import java.lang.reflect.Constructor;
import java.lang.reflect.Field;
import java.lang.reflect.Method;
import java.lang.reflect.Modifier;
import java.util.Arrays;
import java.util.Set;
import java.util.TreeSet;

/** The class shows the document's face and nothing besides (LANGUAGE.md, rules 1 and 5). */
public final class FaceTest {
    private static final String INDEX = " throws java.lang.IndexOutOfBoundsException";
    private static final String ILLEGAL = ",java.lang.IllegalArgumentException";
    private static final String STATE = ",java.lang.IllegalStateException";
    private static final String[] METHODS = {
        "public void TripleSums.clear(int)" + INDEX,
        "public void TripleSums.add(int,long,long,long,int)" + INDEX + ILLEGAL,
        "public void TripleSums.plus(int,int,int)" + INDEX + ILLEGAL + STATE,
        "public int TripleSums.sign(int)" + INDEX,
        "public int TripleSums.compare(int,int)" + INDEX,
        "public int TripleSums.compareSizes(int,int)" + INDEX,
        "public long TripleSums.nearest(int)" + INDEX,
        "public int TripleSums.top(int)" + INDEX,
        "public int TripleSums.bottom(int)" + INDEX,
        "public boolean TripleSums.bit(int,int)" + INDEX,
        "public long TripleSums.word(int,int)" + INDEX,
    };

    public static void main(String[] args) {
        Check check = new Check();
        Class<?> face = TripleSums.class;
        check.same("class", Modifier.toString(face.getModifiers()), "public final");
        methods(check, face);
        constructors(check, face);
        fields(check, face);
        for (Class<?> inside : face.getDeclaredClasses()) {
            int modifiers = inside.getModifiers();
            check.isTrue(inside + " is static", Modifier.isStatic(modifiers));
            check.isTrue(inside + " is not shown",
                    !Modifier.isPublic(modifiers) && !Modifier.isProtected(modifiers));
            statics(check, inside);
        }
        check.end();
    }

    private static void methods(Check check, Class<?> face) {
        Set<String> shown = new TreeSet<>();
        Set<String> names = new TreeSet<>();
        for (Method method : face.getDeclaredMethods()) {
            if (!Modifier.isPrivate(method.getModifiers())) {
                shown.add(method.toString());
                names.add(method.getName());
            }
        }
        check.same("methods", shown, new TreeSet<>(Arrays.asList(METHODS)));
        noneBearsOneOf(check, face, names);
        for (Class<?> inside : face.getDeclaredClasses()) {
            noneBearsOneOf(check, inside, names);
        }
    }

    private static void noneBearsOneOf(Check check, Class<?> holder, Set<String> names) {
        for (Method method : holder.getDeclaredMethods()) {
            boolean isPrivate = Modifier.isPrivate(method.getModifiers());
            check.isTrue(method + " has a name of its own",
                    !isPrivate || !names.contains(method.getName()));
        }
    }

    private static void constructors(Check check, Class<?> face) {
        Constructor<?>[] all = face.getDeclaredConstructors();
        check.same("constructors", all.length, 1);
        check.same("constructor", all[0].toString(), "public TripleSums()");
    }

    private static void fields(Check check, Class<?> face) {
        for (Field field : face.getDeclaredFields()) {
            if (!Modifier.isPrivate(field.getModifiers())) {
                check.same("field", field.toString(), "public static final int TripleSums.NONE");
            }
        }
        statics(check, face);
    }

    private static void statics(Check check, Class<?> holder) {
        for (Field field : holder.getDeclaredFields()) {
            int modifiers = field.getModifiers();
            check.isTrue(field + " is final if static",
                    !Modifier.isStatic(modifiers) || Modifier.isFinal(modifiers));
        }
    }
}
