import java.lang.reflect.Constructor;
import java.lang.reflect.Field;
import java.lang.reflect.Method;
import java.lang.reflect.Modifier;
import java.util.Arrays;
import java.util.Set;
import java.util.TreeSet;

/** The public face is the document's, and nothing else of the class is seen from outside. */
public final class FaceTest {
    private static final String OUTSIDE = " IndexOutOfBoundsException";
    private static final String ARGUMENT = " IllegalArgumentException";
    private static final String STATE = " IllegalStateException";
    private static final String[] FACE = {
        "int begin(int,int)" + ARGUMENT,
        "int nest(int,int,int,int,int)" + OUTSIDE + ARGUMENT + STATE,
        "int put(int,int,int,int,int)" + OUTSIDE + ARGUMENT + STATE,
        "int span(int,int,int,int,int)" + OUTSIDE + ARGUMENT + STATE,
        "int rule(int,int,int,int,int)" + OUTSIDE + ARGUMENT + STATE,
        "int set(int)" + ARGUMENT,
        "int append(int)" + ARGUMENT + STATE,
        "int clearBuffer()",
        "int firstError()",
        "int run()" + ARGUMENT,
        "int undo()" + STATE,
        "int cell(int,int,int,int)" + OUTSIDE + ARGUMENT,
        "int edge(int,int,int,int)" + OUTSIDE + ARGUMENT,
        "int table(int,int)" + OUTSIDE + ARGUMENT,
        "int size(int,boolean,int)" + OUTSIDE,
        "int page(int)" + OUTSIDE,
        "int count(int)" + ARGUMENT,
        "int ifPut(int,int,int,int,int)" + OUTSIDE + ARGUMENT,
        "int countedBy(int,int,int)" + OUTSIDE,
        "int heightFor(int)" + ARGUMENT,
        "double filledShare()",
        "long digest()",
    };

    private FaceTest() {
    }

    private static String told(Method method) {
        StringBuilder told = new StringBuilder();
        told.append(method.getReturnType().getSimpleName()).append(' ').append(method.getName()).append('(');
        for (Class<?> type : method.getParameterTypes()) {
            told.append(told.charAt(told.length() - 1) == '(' ? "" : ",").append(type.getSimpleName());
        }
        told.append(')');
        for (Class<?> type : method.getExceptionTypes()) {
            told.append(' ').append(type.getSimpleName());
        }
        return told.toString();
    }

    public static void main(String[] args) {
        Due due = new Due("FaceTest");
        due.at("the face");
        Class<NestedSums> face = NestedSums.class;
        due.is("public and final", face.getModifiers(), Modifier.PUBLIC | Modifier.FINAL);
        Set<String> methods = new TreeSet<>();
        Set<String> publicNames = new TreeSet<>();
        for (Method method : face.getDeclaredMethods()) {
            if (!Modifier.isPrivate(method.getModifiers())) {
                methods.add(told(method));
                publicNames.add(method.getName());
                due.is(method.getName() + " is public alone", method.getModifiers(), Modifier.PUBLIC);
            }
        }
        due.same("methods", methods.toString(), new TreeSet<>(Arrays.asList(FACE)).toString());
        for (Method method : face.getDeclaredMethods()) {
            boolean isHidden = Modifier.isPrivate(method.getModifiers()) && publicNames.contains(method.getName());
            due.is("a private method has the public name " + method.getName(), isHidden ? 1 : 0, 0);
        }
        for (Field field : face.getDeclaredFields()) {
            boolean isPrivate = Modifier.isPrivate(field.getModifiers());
            due.is("private: " + field.getName(), isPrivate || field.getName().equals("NONE") ? 1 : 0, 1);
        }
        for (Constructor<?> constructor : face.getDeclaredConstructors()) {
            due.is("parameters of the constructor", constructor.getParameterCount(), 0);
            due.is("public", constructor.getModifiers(), Modifier.PUBLIC);
        }
        for (Class<?> inside : face.getDeclaredClasses()) {
            due.is(inside.getSimpleName() + " is static", inside.getModifiers() & Modifier.STATIC, Modifier.STATIC);
            due.is(inside.getSimpleName() + " is public", inside.getModifiers() & Modifier.PUBLIC, 0);
        }
        due.end();
    }
}
