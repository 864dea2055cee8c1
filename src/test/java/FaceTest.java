import java.lang.reflect.Constructor;
import java.lang.reflect.Field;
import java.lang.reflect.Method;
import java.lang.reflect.Modifier;
import java.util.Arrays;
import java.util.TreeSet;

/** The class has the document's face and nothing else that can be seen from outside. */
public final class FaceTest {
    private static final String[] FACE = {
        "boolean sheet(int,int,int)", "void ink(int)", "boolean way(int,int)", "void clip(int,int,int,int)",
        "void dashes(int)", "int line(int,int,int,int,int)", "int circle(int,int,int,int)",
        "int point(int,int,boolean)", "void clear()", "int fill(int,int,boolean)", "boolean corner(int,int,int,int)",
        "int shade(int)", "int flood(int,int,int,boolean)", "int copy(int,int,int,int,int,int,int,int)",
        "int stretch(int,int,int,int,int,int,int,int,int,int)", "int dot(int,int,int)", "int count(int,int)",
        "int region(int,int,int,boolean)", "int differ(int,int)", "int look(int,int)", "int inside(int,int,int)",
    };

    public static void main(String[] args) {
        Check check = new Check();
        check.due("public final", Modifier.isPublic(DotBench.class.getModifiers())
                && Modifier.isFinal(DotBench.class.getModifiers()), true);
        TreeSet<String> methods = new TreeSet<>();
        TreeSet<String> hidden = new TreeSet<>();
        for (Method method : DotBench.class.getDeclaredMethods()) {
            if (Modifier.isPrivate(method.getModifiers())) {
                hidden.add(method.getName());
            } else {
                methods.add(told(method));
            }
        }
        check.due("methods as in the document " + methods, methods.equals(new TreeSet<>(Arrays.asList(FACE))), true);
        for (String line : FACE) {
            String name = line.substring(line.indexOf(' ') + 1, line.indexOf('('));
            check.due("a private method named " + name, hidden.contains(name), false);
        }
        for (Field field : DotBench.class.getDeclaredFields()) {
            boolean seen = !Modifier.isPrivate(field.getModifiers());
            check.due("field " + field.getName() + " is seen", seen, field.getName().equals("NONE"));
            check.due("field " + field.getName() + " is static and not final",
                    Modifier.isStatic(field.getModifiers()) && !Modifier.isFinal(field.getModifiers()), false);
        }
        Constructor<?>[] constructors = DotBench.class.getDeclaredConstructors();
        check.due("constructors", constructors.length, 1);
        check.due("its parameters", constructors[0].getParameterCount(), 0);
        check.due("NONE", DotBench.NONE, -1);
        check.end();
    }

    private static String told(Method method) {
        StringBuilder line = new StringBuilder(method.getReturnType().getName());
        line.append(' ').append(method.getName()).append('(');
        for (Class<?> kind : method.getParameterTypes()) {
            line.append(line.charAt(line.length() - 1) == '(' ? "" : ",").append(kind.getName());
        }
        return line.append(')').toString();
    }
}
