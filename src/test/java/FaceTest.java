import java.lang.reflect.Constructor;
import java.lang.reflect.Field;
import java.lang.reflect.Method;
import java.lang.reflect.Modifier;
import java.util.Set;
import java.util.TreeSet;

/** The public face: these members, and no other that is visible. */
public final class FaceTest {
    private static final String[] FACE = {
        "boolean falls() IllegalStateException",
        "int clear()",
        "int ended()",
        "int fault()",
        "int faultAt()",
        "int feed(int,long) IllegalArgumentException",
        "int has(int) IndexOutOfBoundsException",
        "int move(int) IndexOutOfBoundsException",
        "int moves()",
        "int now(int) IndexOutOfBoundsException",
        "int place(int,int) IllegalStateException IndexOutOfBoundsException",
        "int process()",
        "int product()",
        "int restart()",
        "int stuck()",
        "int told(int,int) IndexOutOfBoundsException IllegalArgumentException",
        "int value(int,int) IllegalStateException IndexOutOfBoundsException",
        "int variable(int,int) IllegalArgumentException",
        "int wipe()",
    };

    public static void main(String[] args) {
        Kit.says("## The public face");
        Kit.due("NONE", -1, () -> StuckSearch.NONE);
        Kit.due("MANY", -2, () -> StuckSearch.MANY);
        Kit.due("the class is public and final", Modifier.PUBLIC | Modifier.FINAL,
            () -> StuckSearch.class.getModifiers());
        Kit.due("the methods", new TreeSet<>(Set.of(FACE)), FaceTest::methods);
        Kit.due("the fields", "[MANY, NONE]", FaceTest::fields);
        Constructor<?>[] made = StuckSearch.class.getDeclaredConstructors();
        Kit.due("the constructors", "1 0 1",
            () -> made.length + " " + made[0].getParameterCount() + " " + made[0].getModifiers());
        Kit.finish();
    }

    private static Set<String> methods() {
        Set<String> found = new TreeSet<>();
        for (Method method : StuckSearch.class.getDeclaredMethods()) {
            if (!Modifier.isPrivate(method.getModifiers())) {
                found.add(describe(method));
            }
        }
        return found;
    }

    private static String describe(Method method) {
        StringBuilder text = new StringBuilder();
        text.append(method.getReturnType().getSimpleName()).append(' ').append(method.getName()).append('(');
        for (int i = 0; i < method.getParameterCount(); i++) {
            text.append(i == 0 ? "" : ",").append(method.getParameterTypes()[i].getSimpleName());
        }
        text.append(')');
        for (Class<?> thrown : method.getExceptionTypes()) {
            text.append(' ').append(thrown.getSimpleName());
        }
        return text.toString();
    }

    private static Set<String> fields() {
        Set<String> found = new TreeSet<>();
        for (Field field : StuckSearch.class.getDeclaredFields()) {
            if (!Modifier.isPrivate(field.getModifiers())) {
                found.add(field.getName());
            }
        }
        return found;
    }
}
