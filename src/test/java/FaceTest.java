import java.lang.reflect.Constructor;
import java.lang.reflect.Field;
import java.lang.reflect.Method;
import java.lang.reflect.Modifier;
import java.util.Set;
import java.util.TreeSet;

/** The public face, no more and no less, and rule 1 of LANGUAGE.md. */
public final class FaceTest {
    private static final Checks CHECKS = new Checks("face");
    private static final Set<String> FACE = Set.of(
            "int DONE", "int REFUSED", "int DIVERGED", "int NONE",
            "OscillatorRow(int)",
            "int body(int,int,int)", "int link(int,int)", "int set(int,int,int)", "int force(int,int)",
            "int tolerance(int)", "int watch(int,int,int,boolean,int)", "int advance(int)", "int place(int)",
            "int speed(int)", "long push(int)", "int hit(int,int)", "int clear()", "int count(int)");

    public static void main(String[] args) {
        Set<String> found = new TreeSet<>();
        Set<String> publicNames = new TreeSet<>();
        for (Field field : OscillatorRow.class.getDeclaredFields()) {
            if (!Modifier.isPrivate(field.getModifiers())) {
                found.add(field.getType() + " " + field.getName());
                CHECKS.due(field.getName() + " is public static final",
                        (field.getModifiers() & 0x19) == (Modifier.PUBLIC | Modifier.STATIC | Modifier.FINAL));
            }
        }
        for (Constructor<?> constructor : OscillatorRow.class.getDeclaredConstructors()) {
            found.add("OscillatorRow" + typesOf(constructor.getParameterTypes()));
            CHECKS.due("the constructor is public", Modifier.isPublic(constructor.getModifiers()));
        }
        for (Method method : OscillatorRow.class.getDeclaredMethods()) {
            if (!Modifier.isPrivate(method.getModifiers())) {
                found.add(method.getReturnType() + " " + method.getName() + typesOf(method.getParameterTypes()));
                publicNames.add(method.getName());
                CHECKS.due(method.getName() + " is public", Modifier.isPublic(method.getModifiers()));
            }
        }
        CHECKS.due("the face is the document's, found " + found, found.equals(FACE));
        CHECKS.due("the class is public and final", (OscillatorRow.class.getModifiers() & 0x11) == 0x11);
        checkPrivateNames(publicNames);
        CHECKS.end();
    }

    private static void checkPrivateNames(Set<String> publicNames) {
        for (Method method : OscillatorRow.class.getDeclaredMethods()) {
            if (Modifier.isPrivate(method.getModifiers())) {
                CHECKS.due(method.getName() + " is no public name", !publicNames.contains(method.getName()));
            }
        }
        for (Class<?> inside : OscillatorRow.class.getDeclaredClasses()) {
            CHECKS.due(inside.getName() + " is static", Modifier.isStatic(inside.getModifiers()));
            for (Method method : inside.getDeclaredMethods()) {
                CHECKS.due(inside.getName() + "." + method.getName(), !publicNames.contains(method.getName()));
            }
        }
    }

    private static String typesOf(Class<?>[] types) {
        StringBuilder text = new StringBuilder("(");
        for (int n = 0; n < types.length; n++) {
            text.append(n > 0 ? "," : "").append(types[n]);
        }
        return text.append(")").toString();
    }
}
