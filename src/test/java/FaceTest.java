import java.lang.reflect.Constructor;
import java.lang.reflect.Field;
import java.lang.reflect.Method;
import java.lang.reflect.Modifier;
import java.util.Set;
import java.util.TreeSet;

/** The class has the document's face, and shows nothing else. */
final class FaceTest {
    private static final Set<String> METHODS = Set.of(
        "boolean code(int, int)", "boolean data(int, int)", "boolean lines(int)", "int run(int)",
        "int reg(int)", "int control(int)", "int word(int)", "int ended(int, int)",
        "int stage(int)", "int foretold(int)", "int figure(int)");

    private FaceTest() {
    }

    public static void main(String[] args) throws Exception {
        Due due = new Due();
        Class<?> face = PipelinedCore.class;
        due.holds("public and final", Modifier.isPublic(face.getModifiers())
            && Modifier.isFinal(face.getModifiers()));
        Set<String> seen = new TreeSet<>();
        for (Method method : face.getDeclaredMethods()) {
            if (!Modifier.isPrivate(method.getModifiers())) {
                seen.add(signature(method));
                due.holds(method + " is public and no static one",
                    Modifier.isPublic(method.getModifiers())
                        && !Modifier.isStatic(method.getModifiers()));
                due.same(method + " throws", method.getExceptionTypes().length, 0);
            }
        }
        due.holds("the methods are " + seen, seen.equals(METHODS));
        for (Method method : face.getDeclaredMethods()) {
            due.fails(method + " is private with a public name",
                Modifier.isPrivate(method.getModifiers()) && isPublicName(method.getName()));
        }
        for (Class<?> inside : face.getDeclaredClasses()) {
            due.holds(inside + " is static and not seen outside",
                (inside.getModifiers() & (Modifier.PUBLIC | Modifier.PROTECTED)) == 0
                    && Modifier.isStatic(inside.getModifiers()));
        }
        Constructor<?>[] constructors = face.getDeclaredConstructors();
        due.same("constructors", constructors.length, 1);
        due.holds("the constructor is public", face.getConstructor(int.class) != null);
        for (Field field : face.getDeclaredFields()) {
            boolean isBad = field.getName().equals("BAD");
            due.same(field.getName() + " is private", Modifier.isPrivate(field.getModifiers()) ? 1 : 0,
                isBad ? 0 : 1);
        }
        due.holds("BAD is public, static and final",
            (face.getField("BAD").getModifiers() & 25) == 25);
        due.same("BAD", PipelinedCore.BAD, -1);
        due.close();
    }

    private static boolean isPublicName(String name) {
        for (Method method : PipelinedCore.class.getMethods()) {
            if (method.getName().equals(name)) {
                return true;
            }
        }
        return false;
    }

    private static String signature(Method method) {
        StringBuilder text = new StringBuilder();
        text.append(method.getReturnType()).append(' ').append(method.getName()).append('(');
        for (Class<?> type : method.getParameterTypes()) {
            text.append(text.charAt(text.length() - 1) == '(' ? "" : ", ").append(type);
        }
        return text.append(')').toString();
    }
}
