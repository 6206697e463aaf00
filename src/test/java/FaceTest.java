import java.lang.reflect.Constructor;
import java.lang.reflect.Field;
import java.lang.reflect.Method;
import java.lang.reflect.Modifier;
import java.util.TreeSet;

/** The public face: these members and no others. */
public final class FaceTest {
    private static final String DUE = "[again():int, feed(int,int,int,int,int):int, names():int, "
        + "node(int,int,int):int, nodes(int):int, part(int,int,int):int, read(int,int):int, "
        + "same():boolean, spelt(int,int):int, whole(int,int):int, write(int,int):int, "
        + "written(int):int]";

    public static void main(String[] args) {
        Checks checks = new Checks("face");
        Class<?> face = ProgramReader.class;
        checks.equal("modifiers", face.getModifiers(), Modifier.PUBLIC | Modifier.FINAL);
        TreeSet<String> methods = new TreeSet<>();
        for (Method method : face.getDeclaredMethods()) {
            if (!Modifier.isPrivate(method.getModifiers()) && !method.isSynthetic()) {
                methods.add(signature(method));
                checks.equal(method.getName(), method.getModifiers(), Modifier.PUBLIC);
            }
        }
        checks.equal("methods", methods.toString(), DUE);
        StringBuilder fields = new StringBuilder();
        for (Field field : face.getDeclaredFields()) {
            if (!Modifier.isPrivate(field.getModifiers())) {
                fields.append(field);
            }
        }
        checks.equal("fields", fields.toString(),
            "public static final int ProgramReader.NONE");
        for (Constructor<?> constructor : face.getDeclaredConstructors()) {
            checks.equal("constructor", constructor.toString(), "public ProgramReader()");
        }
        for (Class<?> inside : face.getDeclaredClasses()) {
            int open = Modifier.PUBLIC | Modifier.PROTECTED;
            checks.equal(inside.getName(), inside.getModifiers() & open, 0);
            checks.equal(inside.getName(), inside.getModifiers() & Modifier.STATIC, Modifier.STATIC);
        }
        checks.equal("NONE", ProgramReader.NONE, -1);
        checks.end();
    }

    private static String signature(Method method) {
        StringBuilder text = new StringBuilder(method.getName()).append('(');
        for (Class<?> type : method.getParameterTypes()) {
            text.append(text.charAt(text.length() - 1) == '(' ? "" : ",").append(type.getName());
        }
        return text.append("):").append(method.getReturnType().getName()).toString();
    }
}
