import java.lang.reflect.Constructor;
import java.lang.reflect.Field;
import java.lang.reflect.Method;
import java.lang.reflect.Modifier;
import java.util.Arrays;
import java.util.HashSet;
import java.util.Set;

/**
 * The public face is the document's, and nothing else can be seen from outside. Behind a method stands what it
 * says it throws: N for NoSuchElementException, I for IllegalArgumentException.
 */
public final class FaceTest {
    private static final String[] METHODS = {
        "int town(int,int,int,int)", "int charter(int,int,int) N", "int days(int) I",
        "int event(int,int,int,int,int,int,int) N", "boolean back(int) N", "int feed(int,int,int,int,int)",
        "int rules(int) I", "int fault()", "int about(int,int,int,int) NI", "long told(int,int,int) NI",
        "long balance(int,int,int,int) NI", "void empty()", "int home(int,int,boolean,int)",
        "int guest(int,int,boolean)", "int liking(int,int) N", "int lodge()", "int lodged(int) N",
        "int plan(int,int,int,long) N", "void clear()", "int calendar()", "int planned(int) N",
        "boolean wish(int,int,int) N", "int pair(int,int)", "int friend(int) N", "int stables(int,int)",
        "int count(int) N",
    };

    public static void main(String[] args) {
        Checks checks = new Checks("FaceTest");
        Set<String> due = new HashSet<>(Arrays.asList(METHODS));
        Set<String> names = new HashSet<>();
        for (String method : METHODS) {
            names.add(method.substring(method.indexOf(' ') + 1, method.indexOf('(')));
        }
        for (Method method : TownTwins.class.getDeclaredMethods()) {
            if (Modifier.isPrivate(method.getModifiers())) {
                checks.due("a private method named " + method.getName(), names.contains(method.getName()), false);
            } else {
                checks.due(told(method) + " in the face", due.remove(told(method)), true);
                checks.due(told(method) + " is public", Modifier.isPublic(method.getModifiers()), true);
            }
        }
        checks.due("methods of the face that are not there: " + due, due.size(), 0);
        for (Field field : TownTwins.class.getDeclaredFields()) {
            boolean isNone = field.getName().equals("NONE");
            checks.due(field.getName() + " is private", Modifier.isPrivate(field.getModifiers()), !isNone);
            if (Modifier.isStatic(field.getModifiers())) {
                checks.due(field.getName() + " is final", Modifier.isFinal(field.getModifiers()), true);
            }
        }
        Constructor<?>[] constructors = TownTwins.class.getDeclaredConstructors();
        checks.due("constructors", constructors.length, 1);
        checks.due("it is public", Modifier.isPublic(constructors[0].getModifiers()), true);
        checks.due("the class is final", Modifier.isFinal(TownTwins.class.getModifiers()), true);
        checks.due("NONE", TownTwins.NONE, -1);
        checkInside(checks, names);
        checks.end();
    }

    private static void checkInside(Checks checks, Set<String> names) {
        for (Class<?> inside : TownTwins.class.getDeclaredClasses()) {
            int bits = inside.getModifiers();
            checks.due(inside + " is static", Modifier.isStatic(bits), true);
            checks.due(inside + " is open", Modifier.isPublic(bits) || Modifier.isProtected(bits), false);
            checks.due(inside + " has at most twenty fields", fieldsOf(inside) <= 20, true);
            for (Method method : inside.getDeclaredMethods()) {
                checks.due(method + " bears a name of the face", names.contains(method.getName()), false);
                checks.due(method + " takes at most seven", method.getParameterCount() <= 7, true);
            }
        }
        checks.due("at most twelve classes", TownTwins.class.getDeclaredClasses().length + 1 <= 12, true);
    }

    private static int fieldsOf(Class<?> inside) {
        int many = 0;
        for (Field field : inside.getDeclaredFields()) {
            many += Modifier.isStatic(field.getModifiers()) ? 0 : 1;
        }
        return many;
    }

    private static String told(Method method) {
        StringBuilder text = new StringBuilder();
        text.append(method.getReturnType().getName()).append(' ').append(method.getName()).append('(');
        for (Class<?> type : method.getParameterTypes()) {
            text.append(text.charAt(text.length() - 1) == '(' ? "" : ",").append(type.getName());
        }
        text.append(method.getExceptionTypes().length == 0 ? ")" : ") ");
        for (Class<?> thrown : method.getExceptionTypes()) {
            text.append(thrown.getSimpleName().charAt(0));
        }
        return text.toString();
    }
}
