import java.lang.reflect.Constructor;
import java.lang.reflect.Field;
import java.lang.reflect.Method;
import java.lang.reflect.Modifier;
import java.util.TreeSet;

/** The face of the document, these members and no others, and the rules of LANGUAGE.md on names. */
public final class FaceTest extends Cases {
    private static final String FACE = "DocumentFile(), "
            + "boolean alter(int,int), boolean cut(int), boolean property(int,int,int,int), "
            + "int at(int), int base(int), int changes(int,int), int count(int), int end(int,int,int,int), "
            + "int mark(int,int,int), int octet(int), int open(), int run(int,int), int save(), int set(), "
            + "int style(int), int type(int,int,long), int value(int,int,int), void clear()";

    public static void main(String[] args) {
        run(FaceTest.class);
    }

    static void theClassIsFinalAndPublic() {
        due("the class", "public final", Modifier.toString(DocumentFile.class.getModifiers()));
    }

    static void theMembersThatAreNotPrivate() {
        due("the face", FACE, face());
    }

    static void theFaceThrowsNothingThatIsChecked() {
        for (Method m : DocumentFile.class.getDeclaredMethods()) {
            due("exceptions of " + m.getName(), 0, m.getExceptionTypes().length);
        }
    }

    static void classesInsideAreStaticAndNotPublic() {
        for (Class<?> inside : DocumentFile.class.getDeclaredClasses()) {
            int m = inside.getModifiers();
            due(inside + " being static and not public", true,
                    Modifier.isStatic(m) && !Modifier.isPublic(m) && !Modifier.isProtected(m));
        }
    }

    static void noMethodInsideBearsTheNameOfAPublicOne() {
        TreeSet<String> publicNames = new TreeSet<>();
        for (Method m : DocumentFile.class.getDeclaredMethods()) {
            if (Modifier.isPublic(m.getModifiers())) {
                publicNames.add(m.getName());
            }
        }
        for (Class<?> inside : DocumentFile.class.getDeclaredClasses()) {
            for (Method m : inside.getDeclaredMethods()) {
                due(m + " being a name of the face", false, publicNames.contains(m.getName()));
            }
        }
    }

    static void staticFieldsAreFinal() {
        for (Field f : DocumentFile.class.getDeclaredFields()) {
            int m = f.getModifiers();
            due(f + " being final if it is static", true, !Modifier.isStatic(m) || Modifier.isFinal(m));
        }
    }

    private static String face() {
        TreeSet<String> members = new TreeSet<>();
        for (Constructor<?> c : DocumentFile.class.getDeclaredConstructors()) {
            if (!Modifier.isPrivate(c.getModifiers())) {
                members.add(c.getName() + list(c.getParameterTypes()));
            }
        }
        for (Method m : DocumentFile.class.getDeclaredMethods()) {
            if (!Modifier.isPrivate(m.getModifiers())) {
                members.add(m.getReturnType() + " " + m.getName() + list(m.getParameterTypes()));
            }
        }
        for (Field f : DocumentFile.class.getDeclaredFields()) {
            if (!Modifier.isPrivate(f.getModifiers())) {
                members.add(f.getName());
            }
        }
        return String.join(", ", members);
    }

    private static String list(Class<?>[] types) {
        StringBuilder names = new StringBuilder();
        for (Class<?> type : types) {
            names.append(names.length() == 0 ? "" : ",").append(type);
        }
        return "(" + names + ")";
    }
}
