import java.lang.reflect.Constructor;
import java.lang.reflect.Field;
import java.lang.reflect.Method;
import java.lang.reflect.Modifier;
import java.util.Arrays;
import java.util.Set;
import java.util.TreeSet;

/** The class has the document's face and no other member that can be seen from outside. */
public final class FaceTest {
    private static final String[] METHODS = {
        "node()", "arc(int,int,int,int)", "capacity(int,int)", "cost(int,int)", "good(int,int,int,int)",
        "demand(int,int)", "worth(int,int)", "ways(int)", "way(int,int,int)", "best()", "spent()", "plan(int)",
        "load(int)", "price(int,int)", "attempt(int,int)", "attempted(int)", "rate(int,int)", "bottleneck(int)",
        "more(int)", "cut()", "count(int)"
    };

    public static void main(String[] args) {
        Check check = new Check("FaceTest");
        Class<?> face = ManyGoods.class;
        check.holds("public and final", Modifier.isPublic(face.getModifiers()) && Modifier.isFinal(face.getModifiers()));
        check.holds("no class above it", face.getSuperclass() == Object.class && face.getInterfaces().length == 0);
        checkMethods(check, face);
        checkFields(check, face);
        Constructor<?>[] makers = face.getDeclaredConstructors();
        check.due("constructors", makers.length, 1);
        check.holds("public ManyGoods()", Modifier.isPublic(makers[0].getModifiers()) && makers[0].getParameterCount() == 0);
        for (Class<?> inside : face.getDeclaredClasses()) {
            boolean hidden = !Modifier.isPublic(inside.getModifiers()) && !Modifier.isProtected(inside.getModifiers());
            check.holds(inside + " is hidden and static", hidden && Modifier.isStatic(inside.getModifiers()));
            checkNames(check, inside);
        }
        check.due("NONE", ManyGoods.NONE, -1);
        check.due("BAD", ManyGoods.BAD, -2);
        check.due("FULL", ManyGoods.FULL, -3);
        check.end();
    }

    private static void checkMethods(Check check, Class<?> face) {
        Set<String> due = new TreeSet<>(Arrays.asList(METHODS));
        check.due("methods due", due.size(), 21);
        Set<String> found = new TreeSet<>();
        Set<String> hidden = new TreeSet<>();
        Set<String> seen = new TreeSet<>();
        for (Method method : face.getDeclaredMethods()) {
            if (Modifier.isPrivate(method.getModifiers())) {
                hidden.add(method.getName());
                continue;
            }
            found.add(signature(method));
            seen.add(method.getName());
            check.holds(method + " is public, of the object, int",
                Modifier.isPublic(method.getModifiers()) && !Modifier.isStatic(method.getModifiers())
                    && method.getReturnType() == int.class);
        }
        check.holds("methods " + found + " are " + due, found.equals(due));
        hidden.retainAll(seen);
        check.holds("private methods with public names: " + hidden, hidden.isEmpty());
    }

    private static void checkNames(Check check, Class<?> inside) {
        for (Method method : inside.getDeclaredMethods()) {
            for (String known : METHODS) {
                check.holds(inside + " " + method.getName(), !known.startsWith(method.getName() + "("));
            }
        }
    }

    private static String signature(Method method) {
        StringBuilder text = new StringBuilder(method.getName()).append('(');
        for (Class<?> type : method.getParameterTypes()) {
            text.append(text.charAt(text.length() - 1) == '(' ? "" : ",").append(type.getName());
        }
        return text.append(')').toString();
    }

    private static void checkFields(Check check, Class<?> face) {
        Set<String> found = new TreeSet<>();
        for (Field field : face.getDeclaredFields()) {
            int flags = field.getModifiers();
            if (!Modifier.isPrivate(flags)) {
                found.add(field.getName());
                check.holds(field + " is a constant int", Modifier.isPublic(flags) && Modifier.isStatic(flags)
                    && Modifier.isFinal(flags) && field.getType() == int.class);
            }
        }
        check.holds("constants " + found, found.equals(new TreeSet<>(Arrays.asList("NONE", "BAD", "FULL"))));
    }
}
