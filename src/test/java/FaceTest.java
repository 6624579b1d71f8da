import java.lang.reflect.Constructor;
import java.lang.reflect.Field;
import java.lang.reflect.Method;
import java.lang.reflect.Modifier;
import java.util.Arrays;
import java.util.TreeSet;

/** The class has the document's face, and no more; and each promise's method stands in it. */
public final class FaceTest {
    private static final String[] METHODS = {
        "int about(int) IllegalArgumentException",
        "int addThing(boolean) IllegalStateException",
        "int append(int) IllegalArgumentException IllegalStateException",
        "int clearText()",
        "int cut(int,int,int) IndexOutOfBoundsException IllegalArgumentException",
        "int cutAt(int,int,int,int) IndexOutOfBoundsException IllegalArgumentException",
        "int danger()",
        "int errorPosition()",
        "int give(int,int,int,int) IndexOutOfBoundsException IllegalArgumentException IllegalStateException",
        "int load() IllegalStateException",
        "int needed(int,int,int) IndexOutOfBoundsException IllegalArgumentException",
        "int proof(int,int,int) IndexOutOfBoundsException IllegalArgumentException",
        "int removeThing(int) IndexOutOfBoundsException",
        "int restore(int) IndexOutOfBoundsException IllegalStateException",
        "int rights(int,int,boolean) IndexOutOfBoundsException IllegalArgumentException",
        "int round(int,int,int) IndexOutOfBoundsException IllegalArgumentException",
        "int runScript(int,long) IllegalArgumentException",
        "int save(int) IndexOutOfBoundsException",
        "boolean set(int,int,int,boolean) IndexOutOfBoundsException IllegalArgumentException IllegalStateException",
        "int simulate(long,int) IllegalArgumentException",
        "int sleeper()",
        "int take(int,int,int,int) IndexOutOfBoundsException IllegalArgumentException IllegalStateException",
        "int thing(int,int) IndexOutOfBoundsException IllegalArgumentException",
        "int undo() IllegalStateException",
        "int wake(int,boolean) IndexOutOfBoundsException IllegalStateException",
        "int way(int,int,int) IndexOutOfBoundsException IllegalArgumentException",
        "int whyNot(boolean,int,int,int,int) IndexOutOfBoundsException IllegalArgumentException",
    };

    public static void main(String[] args) {
        TreeSet<String> want = new TreeSet<>(Arrays.asList(METHODS));
        TreeSet<String> got = new TreeSet<>();
        TreeSet<String> privateNames = new TreeSet<>();
        for (Method method : AccessSpread.class.getDeclaredMethods()) {
            if (Modifier.isPrivate(method.getModifiers())) {
                privateNames.add(method.getName());
            } else {
                Checks.due(method.getName() + " is public", method.getModifiers(), Modifier.PUBLIC);
                got.add(told(method));
            }
        }
        for (String method : want) {
            Checks.due("the face has " + method, got.contains(method), true);
        }
        for (String method : got) {
            Checks.due("the document has " + method, want.contains(method), true);
            String name = method.substring(method.indexOf(' ') + 1, method.indexOf('('));
            Checks.due(name + " is a private name", privateNames.contains(name), false);
        }
        checkTheRest();
        Checks.end();
    }

    private static String told(Method method) {
        StringBuilder all = new StringBuilder(method.getReturnType().getName()).append(' ').append(method.getName());
        String before = "(";
        for (Class<?> type : method.getParameterTypes()) {
            all.append(before).append(type.getName());
            before = ",";
        }
        all.append(before.equals("(") ? "()" : ")");
        for (Class<?> type : method.getExceptionTypes()) {
            all.append(' ').append(type.getSimpleName());
        }
        return all.toString();
    }

    private static void checkTheRest() {
        Checks.due("modifiers of the class", AccessSpread.class.getModifiers(), Modifier.PUBLIC | Modifier.FINAL);
        Constructor<?>[] made = AccessSpread.class.getDeclaredConstructors();
        Checks.due("constructors", made.length, 1);
        Checks.due("modifiers of the constructor", made[0].getModifiers(), Modifier.PUBLIC);
        Checks.due("parameters of the constructor", made[0].getParameterCount(), 0);
        int seen = 0;
        for (Field field : AccessSpread.class.getDeclaredFields()) {
            if (!Modifier.isPrivate(field.getModifiers())) {
                seen++;
                Checks.due("the constant is NONE", field.getName().equals("NONE"), true);
            }
        }
        Checks.due("constants", seen, 1);
        Checks.due("NONE", AccessSpread.NONE, -9);
    }
}
