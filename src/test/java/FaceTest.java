import java.lang.reflect.Constructor;
import java.lang.reflect.Field;
import java.lang.reflect.Method;
import java.lang.reflect.Modifier;
import java.util.TreeSet;

/** The public face, and that nothing else of the class can be seen from outside. */
public final class FaceTest {
    private static final String[] METHODS = {
        "add(int)", "at(int)", "begins(int)", "clear()", "count(int)", "drop(int)", "find(int)",
        "from(int)", "had(int,int)", "leaf(int,int)", "place(int)", "release(int)", "term(int,int)",
        "type(long,int)", "version()"
    };

    public static void main(String[] args) {
        Check check = new Check("FaceTest");
        check.due("BAD", TermBook.BAD, -1);
        check.due("NO", TermBook.NO, -2);
        check.due("FULL", TermBook.FULL, -3);
        int modifiers = TermBook.class.getModifiers();
        check.due("public and final", Modifier.isPublic(modifiers) && Modifier.isFinal(modifiers) ? 1 : 0, 1);
        methods(check);
        fields(check);
        Constructor<?>[] constructors = TermBook.class.getDeclaredConstructors();
        check.due("constructors", constructors.length, 1);
        check.due("its parameters", constructors[0].getParameterCount(), 0);
        check.due("it is public", Modifier.isPublic(constructors[0].getModifiers()) ? 1 : 0, 1);
        check.end();
    }

    private static void methods(Check check) {
        TreeSet<String> seen = new TreeSet<>();
        TreeSet<String> hidden = new TreeSet<>();
        for (Method method : TermBook.class.getDeclaredMethods()) {
            if (Modifier.isPrivate(method.getModifiers())) {
                hidden.add(method.getName());
            } else {
                seen.add(signature(method));
                check.due(method.getName() + " answers an int", method.getReturnType() == int.class ? 1 : 0, 1);
                check.due(method.getName() + " is public", Modifier.isPublic(method.getModifiers()) ? 1 : 0, 1);
                check.due(method.getName() + " is an object's", Modifier.isStatic(method.getModifiers()) ? 1 : 0, 0);
            }
        }
        check.due("visible methods", seen.size(), METHODS.length);
        for (String method : METHODS) {
            check.due("there is " + method, seen.contains(method) ? 1 : 0, 1);
            String name = method.substring(0, method.indexOf('('));
            check.due("a private " + name, hidden.contains(name) ? 1 : 0, 0);
        }
    }

    private static String signature(Method method) {
        StringBuilder text = new StringBuilder(method.getName()).append('(');
        String between = "";
        for (Class<?> type : method.getParameterTypes()) {
            text.append(between).append(type.getName());
            between = ",";
        }
        return text.append(')').toString();
    }

    private static void fields(Check check) {
        int visible = 0;
        for (Field field : TermBook.class.getDeclaredFields()) {
            int modifiers = field.getModifiers();
            if (!Modifier.isPrivate(modifiers)) {
                visible++;
                boolean constant = Modifier.isPublic(modifiers) && Modifier.isStatic(modifiers) && Modifier.isFinal(modifiers);
                check.due(field + " is a public constant", constant && field.getType() == int.class ? 1 : 0, 1);
            }
        }
        check.due("visible fields", visible, 3);
    }
}
