import java.lang.reflect.Constructor;
import java.lang.reflect.Field;
import java.lang.reflect.Method;
import java.lang.reflect.Modifier;
import java.util.TreeSet;

/** The public face, and nothing beside it. */
public final class FaceTest {
    private static final String DUE = "[OPEN, PASSED, REFUSED, accountAnew(int)int, fetch(int,int)int,"
            + " film(int)int, has(int,int)boolean, hour()int, join(int,int)int, leave(int)int,"
            + " member(int,int)int, owes(int,int)int, owesAnew(int,int)int, pass(int)int,"
            + " proposal(int,int)int, propose(int,int,int)int, rule(int)int, told(int)char,"
            + " vote(int,int,boolean)int, worth(int)int]";

    public static void main(String[] args) {
        Check.is("OPEN", Bandwidthclub.OPEN, 0);
        Check.is("PASSED", Bandwidthclub.PASSED, 1);
        Check.is("REFUSED", Bandwidthclub.REFUSED, 2);
        TreeSet<String> face = new TreeSet<>();
        for (Field field : Bandwidthclub.class.getDeclaredFields()) {
            if (!Modifier.isPrivate(field.getModifiers())) {
                face.add(field.getName());
                Check.is(field.getName() + " is a constant of int", field.getType() == int.class
                        && Modifier.isStatic(field.getModifiers())
                        && Modifier.isFinal(field.getModifiers()), true);
            }
        }
        for (Method method : Bandwidthclub.class.getDeclaredMethods()) {
            if (!Modifier.isPrivate(method.getModifiers())) {
                face.add(method.getName() + parameters(method) + method.getReturnType());
            }
        }
        Check.is("the face", face.toString(), DUE);
        Check.is("public and final", Bandwidthclub.class.getModifiers(),
                Modifier.PUBLIC | Modifier.FINAL);
        Constructor<?>[] made = Bandwidthclub.class.getDeclaredConstructors();
        Check.is("constructors", made.length, 1);
        Check.is("constructor's parameters", made[0].getParameterCount(), 0);
        Check.end();
    }

    private static String parameters(Method method) {
        StringBuilder text = new StringBuilder("(");
        for (Class<?> type : method.getParameterTypes()) {
            text.append(text.length() > 1 ? "," : "").append(type);
        }
        return text.append(')').toString();
    }
}
