import java.lang.reflect.Constructor;
import java.lang.reflect.Field;
import java.lang.reflect.Method;
import java.lang.reflect.Modifier;
import java.util.Arrays;
import java.util.Set;
import java.util.TreeSet;

/** The class shows the document's face and nothing else. */
public final class FaceTest {
    private static final String I = " throws IndexOutOfBoundsException";
    private static final String A = I + " IllegalArgumentException";
    private static final String U = " UnsupportedOperationException";
    private static final String[] FACE = {
        "void make(int,int,int)" + A,
        "void set(int,int,int,long,long)" + A + U,
        "void unit(int,int)" + A,
        "void add(int,int,int,boolean)" + A + U,
        "void multiply(int,int,int)" + A + U,
        "void turn(int,int)" + I,
        "void beside(int,int,int)" + A + U,
        "void part(int,int,int,int,int,int)" + A,
        "int echelon(int,int)" + I + U,
        "int kernel(int,int)" + I + U,
        "boolean solve(int,int,int)" + A + U,
        "boolean invert(int,int)" + A + U,
        "void determinant(int,int)" + A + U,
        "int hermite(int,int)" + A + U,
        "int smith(int,int)" + A + U,
        "int size(int,boolean)" + I,
        "int sign(int,int,int)" + I,
        "int length(int,int,int,boolean)" + I,
        "int limb(int,int,int,boolean,int)" + I,
        "boolean same(int,int)" + I,
    };

    public static void main(String[] args) {
        Check check = new Check();
        Class<?> face = ExactForms.class;
        check.due("modifiers", face.getModifiers(), Modifier.PUBLIC | Modifier.FINAL);
        check.holds("no package", face.getPackageName().isEmpty());
        check.due("constructors", face.getDeclaredConstructors().length, 1);
        for (Constructor<?> made : face.getDeclaredConstructors()) {
            check.due("constructor", made.toString(), "public ExactForms()");
        }
        Set<String> got = new TreeSet<>();
        Set<String> hidden = new TreeSet<>();
        Set<String> names = new TreeSet<>();
        for (Method method : face.getDeclaredMethods()) {
            if (Modifier.isPrivate(method.getModifiers())) {
                hidden.add(method.getName());
            } else {
                got.add(text(method));
                names.add(method.getName());
                check.due(method + " modifiers", method.getModifiers(), Modifier.PUBLIC);
            }
        }
        check.due("methods", got, new TreeSet<>(Arrays.asList(FACE)));
        hidden.retainAll(names);
        check.holds("no private method bears the name of a public one", hidden.isEmpty());
        for (Field field : face.getDeclaredFields()) {
            check.holds(field + " is private", Modifier.isPrivate(field.getModifiers()));
        }
        for (Class<?> inside : face.getDeclaredClasses()) {
            check.holds(inside + " is static", Modifier.isStatic(inside.getModifiers()));
            check.holds(inside + " is hidden", !Modifier.isPublic(inside.getModifiers())
                && !Modifier.isProtected(inside.getModifiers()));
        }
        check.end("FaceTest");
    }

    private static String text(Method method) {
        StringBuilder s = new StringBuilder(method.getReturnType() + " " + method.getName() + "(");
        for (Class<?> type : method.getParameterTypes()) {
            s.append(s.charAt(s.length() - 1) == '(' ? "" : ",").append(type);
        }
        s.append(") throws");
        for (Class<?> type : method.getExceptionTypes()) {
            s.append(' ').append(type.getSimpleName());
        }
        return s.toString();
    }
}
