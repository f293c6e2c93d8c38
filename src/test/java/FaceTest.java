import java.lang.reflect.Constructor;
import java.lang.reflect.Field;
import java.lang.reflect.Method;
import java.lang.reflect.Modifier;
import java.util.Set;
import java.util.TreeSet;

/** The public face is the document's, and no member beside it is visible. */
public final class FaceTest {
    private static final Set<String> METHODS = Set.of(
            "int start(int,boolean,int,int,int)", "int write(int,int)", "int send(int,int)",
            "int deliver(int,int)", "int splice(int,int,int,int)", "int replace(int,int,int)",
            "boolean give(int)", "int tick()", "int state(int)", "int steps(int)", "int peer(int)",
            "int payload(int)", "int accepted(int)", "boolean match(int,int)", "boolean open(int)",
            "int parts(int)", "int sees(int,int)", "int shown(int,int)",
            "boolean same(int,int,int,int)");
    private static final Set<String> CONSTANTS = Set.of("BAD", "CLOSED", "TURN", "FULL");

    public static void main(String[] args) {
        Check check = new Check();
        check.about("face");
        check.due("class is final", Modifier.isFinal(SealedTalks.class.getModifiers()), true);
        check.due("class is public", Modifier.isPublic(SealedTalks.class.getModifiers()), true);
        check.due("methods", visibleMethods().equals(METHODS), true);
        check.due("constants", visibleFields().equals(CONSTANTS), true);
        check.due("constructors", visibleConstructors(), 1);
        check.due("no private method bears a public name", namesakes(), 0);
        check.due("BAD", SealedTalks.BAD, -1);
        check.due("CLOSED", SealedTalks.CLOSED, -2);
        check.due("TURN", SealedTalks.TURN, -3);
        check.due("FULL", SealedTalks.FULL, -4);
        check.end();
    }

    private static Set<String> visibleMethods() {
        Set<String> found = new TreeSet<>();
        for (Method method : SealedTalks.class.getDeclaredMethods()) {
            if (!Modifier.isPrivate(method.getModifiers())) {
                StringBuilder text = new StringBuilder();
                for (Class<?> type : method.getParameterTypes()) {
                    text.append(text.length() == 0 ? "" : ",").append(type.getName());
                }
                found.add(method.getReturnType().getName() + " " + method.getName() + "(" + text + ")");
            }
        }
        return found;
    }

    private static Set<String> visibleFields() {
        Set<String> found = new TreeSet<>();
        for (Field field : SealedTalks.class.getDeclaredFields()) {
            if (!Modifier.isPrivate(field.getModifiers())) {
                found.add(field.getName());
            }
        }
        return found;
    }

    private static int visibleConstructors() {
        int count = 0;
        for (Constructor<?> constructor : SealedTalks.class.getDeclaredConstructors()) {
            count += Modifier.isPublic(constructor.getModifiers()) ? 1 : 100;
        }
        return count;
    }

    private static int namesakes() {
        Set<String> names = new TreeSet<>();
        for (Method method : SealedTalks.class.getMethods()) {
            names.add(method.getName());
        }
        int count = 0;
        for (Method method : SealedTalks.class.getDeclaredMethods()) {
            if (Modifier.isPrivate(method.getModifiers()) && names.contains(method.getName())) {
                count++;
            }
        }
        return count;
    }
}
