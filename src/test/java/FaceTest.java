import java.lang.reflect.Constructor;
import java.lang.reflect.Field;
import java.lang.reflect.Method;
import java.lang.reflect.Modifier;
import java.util.TreeSet;

/** The face of the document, these members and no others. */
public final class FaceTest {
    private static final String FACE = "DocumentFile(), "
            + "boolean alter(int,int), boolean cut(int), boolean property(int,int,int,int), "
            + "int at(int), int base(int), int changes(int,int), int count(int), int end(int,int,int,int), "
            + "int mark(int,int,int), int octet(int), int open(), int run(int,int), int save(), int set(), "
            + "int style(int), int type(int,int,long), int value(int,int,int), void clear()";

    public static void main(String[] args) {
        Check check = new Check();
        check.due("the class is final and public",
                Modifier.toString(DocumentFile.class.getModifiers()), "public final");
        check.due("the members that aren't private", face(), FACE);
        for (Class<?> inside : DocumentFile.class.getDeclaredClasses()) {
            int m = inside.getModifiers();
            check.due(inside + " is static and not public",
                    Modifier.isStatic(m) && !Modifier.isPublic(m) && !Modifier.isProtected(m), true);
        }
        check.finish();
    }

    private static String face() {
        TreeSet<String> members = new TreeSet<>();
        for (Constructor<?> c : DocumentFile.class.getDeclaredConstructors()) {
            if (!Modifier.isPrivate(c.getModifiers())) {
                members.add(c.getName() + list(c.getParameterTypes()));
            }
        }
        for (Method m : DocumentFile.class.getDeclaredMethods()) {
            if (!Modifier.isPrivate(m.getModifiers())) {
                members.add(m.getReturnType() + " " + m.getName() + list(m.getParameterTypes()));
            }
        }
        for (Field f : DocumentFile.class.getDeclaredFields()) {
            if (!Modifier.isPrivate(f.getModifiers())) {
                members.add(f.getName());
            }
        }
        return String.join(", ", members);
    }

    private static String list(Class<?>[] types) {
        StringBuilder names = new StringBuilder();
        for (Class<?> type : types) {
            names.append(names.length() == 0 ? "" : ",").append(type);
        }
        return "(" + names + ")";
    }
}
