import java.lang.reflect.Constructor;
import java.lang.reflect.Field;
import java.lang.reflect.Method;
import java.lang.reflect.Modifier;
import java.util.TreeSet;

/** The public face with its throws clauses, and nothing beside it. */
public final class FaceTest {
    private static final String DUE = "[OPEN, PASSED, REFUSED, accountAnew(int)int, fetch(int,int)int,"
            + " film(int)int, has(int,int)boolean, hour()int, join(int,int)int, leave(int)int,"
            + " member(int,int)int, owes(int,int)int, owesAnew(int,int)int, pass(int)int,"
            + " proposal(int,int)int, propose(int,int,int)int, rule(int)int, told(int)char,"
            + " vote(int,int,boolean)int, worth(int)int]";

    private static final String INDEX = "IndexOutOfBoundsException";
    private static final String ARGUMENT = "IllegalArgumentException";
    private static final String STATE = "IllegalStateException";

    public static void main(String[] args) {
        Check.is("OPEN", Bandwidthclub.OPEN, 0);
        Check.is("PASSED", Bandwidthclub.PASSED, 1);
        Check.is("REFUSED", Bandwidthclub.REFUSED, 2);
        TreeSet<String> face = new TreeSet<>();
        for (Field field : Bandwidthclub.class.getDeclaredFields()) {
            if (!Modifier.isPrivate(field.getModifiers())) {
                face.add(field.getName());
                Check.is(field.getName() + " is a constant of int", field.getType() == int.class
                        && Modifier.isPublic(field.getModifiers())
                        && Modifier.isStatic(field.getModifiers())
                        && Modifier.isFinal(field.getModifiers()), true);
            }
        }
        for (Method method : Bandwidthclub.class.getDeclaredMethods()) {
            if (!Modifier.isPrivate(method.getModifiers())) {
                face.add(method.getName() + parameters(method) + method.getReturnType());
                Check.is("modifiers of " + method.getName(), method.getModifiers(), Modifier.PUBLIC);
            }
        }
        Check.is("the face", face.toString(), DUE);
        Check.is("public and final", Bandwidthclub.class.getModifiers(),
                Modifier.PUBLIC | Modifier.FINAL);
        Constructor<?>[] made = Bandwidthclub.class.getDeclaredConstructors();
        Check.is("constructors", made.length, 1);
        Check.is("constructor's parameters", made[0].getParameterCount(), 0);
        Check.is("constructor is public", made[0].getModifiers(), Modifier.PUBLIC);
        Check.is("constructor's throws clause", made[0].getExceptionTypes().length, 0);
        throwsClauses();
        Check.end();
    }

    private static void throwsClauses() {
        throwing("hour");
        for (String name : new String[] {"join", "film", "pass"}) {
            throwing(name, ARGUMENT, STATE);
        }
        for (String name : new String[] {"leave", "fetch", "vote"}) {
            throwing(name, INDEX, STATE);
        }
        throwing("propose", INDEX, ARGUMENT, STATE);
        for (String name : new String[] {"proposal", "member"}) {
            throwing(name, INDEX, ARGUMENT);
        }
        for (String name : new String[] {"rule", "has", "owes", "worth", "accountAnew", "owesAnew",
                "told"}) {
            throwing(name, INDEX);
        }
    }

    private static void throwing(String name, String... due) {
        for (Method method : Bandwidthclub.class.getDeclaredMethods()) {
            if (method.getName().equals(name)) {
                StringBuilder clause = new StringBuilder();
                for (Class<?> type : method.getExceptionTypes()) {
                    clause.append(clause.length() > 0 ? ", " : "").append(type.getSimpleName());
                }
                Check.is(name + "'s throws clause", clause.toString(), String.join(", ", due));
            }
        }
    }

    private static String parameters(Method method) {
        StringBuilder text = new StringBuilder("(");
        for (Class<?> type : method.getParameterTypes()) {
            text.append(text.length() > 1 ? "," : "").append(type);
        }
        return text.append(')').toString();
    }
}
