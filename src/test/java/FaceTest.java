import java.io.IOException;
import java.lang.reflect.Constructor;
import java.lang.reflect.Executable;
import java.lang.reflect.Field;
import java.lang.reflect.Method;
import java.lang.reflect.Modifier;
import java.util.ArrayList;
import java.util.List;
import java.util.Set;
import java.util.StringJoiner;
import java.util.TreeSet;

/** The class shows the document's face and nothing besides (LANGUAGE.md, rules 1 and 5). */
public final class FaceTest {
    private static final int MEMBERS = 13;

    public static void main(String[] args) throws Exception {
        Check check = new Check();
        Class<?> face = TripleSums.class;
        check.same("class", Modifier.toString(face.getModifiers()), "public final");
        check.same("what it extends", face.getSuperclass(), Object.class);
        check.same("what it implements", face.getInterfaces().length, 0);
        List<String> due = membersOfTheDocument();
        check.same("how many members the document has", due.size(), MEMBERS);
        check.same("members", new TreeSet<>(shownBy(face)), new TreeSet<>(due));
        check.same("constructors", face.getDeclaredConstructors().length, 1);
        noPrivateOneBearsAShownName(check, face);
        statics(check, face);
        for (Class<?> inside : face.getDeclaredClasses()) {
            isHidden(check, inside);
            statics(check, inside);
        }
        check.end();
    }

    /** The members in the form of shownBy: the parameters' names and the spaces behind commas go. */
    private static List<String> membersOfTheDocument() throws IOException {
        List<String> members = new ArrayList<>();
        for (String member : Document.members()) {
            members.add(member.replaceAll("\\b(int|long) \\w+(?=[,)])", "$1").replaceAll(", ", ","));
        }
        return members;
    }

    private static List<String> shownBy(Class<?> face) throws IllegalAccessException {
        List<String> shown = new ArrayList<>();
        for (Field field : face.getDeclaredFields()) {
            if (!Modifier.isPrivate(field.getModifiers())) {
                shown.add(Modifier.toString(field.getModifiers()) + " " + field.getType().getSimpleName()
                        + " " + field.getName() + " = " + field.get(null));
            }
        }
        for (Constructor<?> constructor : face.getDeclaredConstructors()) {
            shown.add(written(constructor, face.getSimpleName()));
        }
        for (Method method : face.getDeclaredMethods()) {
            if (!Modifier.isPrivate(method.getModifiers())) {
                shown.add(written(method, method.getReturnType().getSimpleName() + " " + method.getName()));
            }
        }
        return shown;
    }

    private static String written(Executable member, String name) {
        StringJoiner parameters = new StringJoiner(",", "(", ")");
        for (Class<?> type : member.getParameterTypes()) {
            parameters.add(type.getSimpleName());
        }
        StringJoiner exceptions = new StringJoiner(",", " throws ", "").setEmptyValue("");
        for (Class<?> type : member.getExceptionTypes()) {
            exceptions.add(type.getSimpleName());
        }
        return Modifier.toString(member.getModifiers()) + " " + name + parameters + exceptions;
    }

    private static void noPrivateOneBearsAShownName(Check check, Class<?> face) {
        Set<String> names = new TreeSet<>();
        for (Method method : face.getDeclaredMethods()) {
            if (!Modifier.isPrivate(method.getModifiers())) {
                names.add(method.getName());
            }
        }
        noneBearsOneOf(check, face, names);
        for (Class<?> inside : face.getDeclaredClasses()) {
            noneBearsOneOf(check, inside, names);
        }
    }

    private static void noneBearsOneOf(Check check, Class<?> holder, Set<String> names) {
        for (Method method : holder.getDeclaredMethods()) {
            boolean isPrivate = Modifier.isPrivate(method.getModifiers());
            check.isTrue(method + " has a name of its own",
                    !isPrivate || !names.contains(method.getName()));
        }
    }

    private static void isHidden(Check check, Class<?> inside) {
        int modifiers = inside.getModifiers();
        check.isTrue(inside + " is static", Modifier.isStatic(modifiers));
        check.isTrue(inside + " is not shown",
                !Modifier.isPublic(modifiers) && !Modifier.isProtected(modifiers));
    }

    private static void statics(Check check, Class<?> holder) {
        for (Field field : holder.getDeclaredFields()) {
            int modifiers = field.getModifiers();
            check.isTrue(field + " is final if static",
                    !Modifier.isStatic(modifiers) || Modifier.isFinal(modifiers));
        }
    }
}
